/** The quotients, and the terms LIGHT AND GLASS. */
final class LightTest {
    public static void main(String[] args) {
        Due due = new Due();
        quotientOfLight(due);
        quotientOfShown(due);
        quotientOfLeak(due);
        quotientOfMean(due);
        quotientOfPeakAndMean(due);
        quotientByOwnShare(due);
        sumOfShares(due);
        sumInDeadZone(due);
        threeApart(due);
        lightAtMost(due);
        sameForAllSpots(due);
        glassRoundedUp(due);
        glassAtMost(due);
        glassWithoutLight(due);
        shownOrLeak(due);
        leakWithoutGlass(due);
        shinesAsAsked(due);
        tooDarkOrTooBright(due);
        due.close("LightTest");
    }

    /** A zone 7 whose light is its level, and that asks for nothing any more. */
    private static Light shining(int level) {
        Light light = Light.alone("0,0+1x1=0");
        light.askAll("4,4+4x4=" + level);
        light.pass(1);
        light.askAll("4,4+4x4=0");
        return light;
    }

    private static void quotientOfLight(Due due) {
        due.terms(15, "All quotients are rounded down.");
        Light light = Light.asking("0,0+4x4=17;12,0+4x4=16").with(256, 15, 0, 0, 0);
        light.pass(1);
        due.due("255 / 256", light.zone(6, 2), 0);
        light.set(1, 16);
        due.due("256 / 256", light.zone(8, 2), 1);
        due.due("272 / 256", light.zone(6, 2), 1);
        light.set(1, 30);
        due.due("510 / 256", light.zone(6, 2), 1);
    }

    private static void quotientOfShown(Due due) {
        due.terms(14, "All quotients are rounded down.");
        Light light = shining(254);
        light.ask(4, 4, 1);
        due.due("glass", light.spot(4, 4, 2), 2);
        due.due("508 / 255", light.spot(4, 4, 3), 1);
        light.ask(4, 4, 127);
        due.due("glass", light.spot(4, 4, 2), 128);
        due.due("32512 / 255", light.spot(4, 4, 3), 127);
    }

    private static void quotientOfLeak(Due due) {
        due.terms(15, "All quotients are rounded down.");
        Light light = Light.alone("0,0+4x4=27;4,0+4x4=250");
        light.set(5, 37);
        light.pass(1);
        due.due("999 / 1000", light.zone(0, 6), 0);
        due.due("9250 / 1000", light.zone(1, 6), 9);
        light.set(5, 4);
        due.due("1000 / 1000", light.zone(1, 6), 1);
        light.set(5, 12);
        due.due("3000 / 1000", light.zone(1, 6), 3);
    }

    private static void quotientOfMean(Due due) {
        due.terms(15, "All quotients are rounded down.");
        Light light = Light.asking("0,0+1x1=15;4,0+1x1=16;8,0+1x1=31;12,0+4x4=255;12,0+1x1=254");
        due.due("15 / 16", light.zone(0, 5), 0);
        due.due("16 / 16", light.zone(1, 5), 1);
        due.due("31 / 16", light.zone(2, 5), 1);
        due.due("4079 / 16", light.zone(3, 5), 254);
    }

    private static void quotientOfPeakAndMean(Due due) {
        due.terms(15, "All quotients are rounded down.");
        Light light = Light.alone("0,0+1x1=15;4,0+1x1=16;8,0+1x1=32");
        light.set(3, 1);
        due.due("15 / 2", light.zone(0, 1), 7);
        due.due("17 / 2", light.zone(1, 1), 8);
        due.due("34 / 2", light.zone(2, 1), 17);
    }

    private static void quotientByOwnShare(Due due) {
        due.terms(15, "All quotients are rounded down.");
        Light light = Light.alone("0,0+1x1=101;4,0+1x1=135;8,0+1x1=1").with(180);
        due.due("25856 / 180", light.zone(0, 1), 143);
        due.due("34560 / 180", light.zone(1, 1), 192);
        due.due("256 / 180", light.zone(2, 1), 1);
    }

    private static void sumOfShares(Due due) {
        due.terms(14, "is the sum, over all zones, of their level times their share (the own share");
        Light light = Light.asking("4,4+4x4=15;12,4+4x4=15").with(256, 9, 0, 0, 0);
        light.pass(1);
        due.due("135 and 135 by 256", light.spot(8, 4, 1), 1);
        due.due("135 by 256", light.spot(0, 4, 1), 0);
        due.due("3840 and 0 by 256", light.spot(4, 4, 1), 15);
        light.set(2, 9);
        due.due("3840 and 135 by 256", light.spot(4, 4, 1), 15);
        Light all = Light.asking("0,0+24x12=100").with(100, 30, 9, 0, 0);
        all.pass(1);
        // levels of 255 everywhere would be too much: here they are 20 each
        all.askAll("0,0+24x12=8");
        all.pass(1);
        due.due("level", all.zone(7, 0), 20);
        due.due("20 * (100 + 8 * 30 + 3 * 9) / 256", all.spot(4, 4, 1), 28);
        due.due("20 * (100 + 3 * 30 + 5 * 9) / 256", all.spot(0, 0, 1), 18);
        due.due("20 * (100 + 8 * 30 + 6 * 9) / 256", all.spot(8, 4, 1), 30);
    }

    private static void sumInDeadZone(Due due) {
        due.terms(14, "over all zones, of their level times their share");
        Light light = Light.asking("4,4+4x4=15;0,0+4x4=9").with(256, 30, 9, 0, 1);
        light.kill(7, true);
        light.pass(1);
        // zone 0 has 9 by itself and 16 for the dead one
        due.due("a dead zone's light by its neighbours", light.spot(4, 4, 1), 15);
        due.due("what is shown there", light.spot(7, 7, 3), 15);
        due.due("it shines as asked", light.spot(7, 7, 4), 0);
        due.due("zone(7, 2)", light.zone(7, 2), 15);
        due.due("zone(7, 7)", light.zone(7, 7), 0);
        due.due("zone(7, 0)", light.zone(7, 0), 0);
        light.kill(8, true);
        due.due("less by one neighbour", light.spot(4, 4, 1), 13);
    }

    private static void threeApart(Due due) {
        due.terms(14, "none for those that are 3 apart or more");
        Light light = new Light().with(256, 30, 9, 0, 0);
        light.ask(0, 0, 255);
        light.pass(1);
        int[] row = {255, 29, 8, 0, 0, 0};
        for (int x = 0; x < 24; x++) {
            due.due("spot(" + x + ", 0, 1)", light.spot(x, 0, 1), row[x / 4]);
        }
        due.due("5 columns, 2 rows", light.spot(23, 11, 1), 0);
        // no other setting is the share of those that are 3 apart
        light.set(3, 2);
        light.set(7, 255);
        due.due("by rule 2", light.spot(12, 0, 1), 0);
    }

    private static void lightAtMost(Due due) {
        due.terms(14, "divided by 256, at most 255.");
        int[] level = {42, 43, 51, 52, 255};
        int[] lights = {254, 255, 255, 255, 255};
        for (int i = 0; i < level.length; i++) {
            Light light = Light.asking("4,4+4x4=250;8,4+4x4=" + level[i]).with(256, 30, 0, 0, 0);
            light.pass(1);
            due.due("250 beside " + level[i], light.spot(4, 4, 1), lights[i]);
        }
        Light full = Light.asking("0,0+24x12=255").with(256, 30, 9);
        full.pass(1);
        due.due("all that can be", full.spot(8, 4, 1), 255);
    }

    private static void sameForAllSpots(Due due) {
        due.terms(14, "It is the same for all spots of a zone.");
        Light light = Light.asking("0,0+4x4=255;4,4+1x1=77").with(256, 30, 9, 0, 0);
        light.pass(1);
        for (int x = 4; x < 8; x++) {
            for (int y = 4; y < 8; y++) {
                due.due("spot(" + x + ", " + y + ", 1)", light.spot(x, y, 1), 106);
            }
        }
        due.due("spot(8, 4, 1)", light.spot(8, 4, 1), 17);
        due.due("spot(3, 3, 1)", light.spot(3, 3, 1), 255);
    }

    private static void glass(Due due, Light light, int asked, int want) {
        light.ask(4, 4, asked);
        due.due("glass for " + asked + " of " + light.spot(4, 4, 1), light.spot(4, 4, 2), want);
    }

    private static void glassRoundedUp(Due due) {
        due.terms(14, "The glass of a spot lets through g of 255: asked * 255 / light, rounded up");
        Light light = shining(200);
        glass(due, light, 0, 0);
        glass(due, light, 1, 2);
        glass(due, light, 40, 51);
        glass(due, light, 41, 53);
        glass(due, light, 199, 254);
        Light one = shining(255);
        glass(due, one, 0, 0);
        glass(due, one, 1, 1);
        glass(due, one, 254, 254);
    }

    private static void glassAtMost(Due due) {
        due.terms(14, "rounded up, 255 at most");
        Light light = shining(200);
        glass(due, light, 200, 255);
        glass(due, light, 201, 255);
        glass(due, light, 255, 255);
        Light least = shining(1);
        glass(due, least, 1, 255);
        glass(due, least, 255, 255);
        glass(due, shining(255), 255, 255);
    }

    private static void glassWithoutLight(Due due) {
        due.terms(14, "0 if the light is 0.");
        Light light = new Light();
        glass(due, light, 255, 0);
        glass(due, light, 1, 0);
        due.due("shown", light.spot(4, 4, 3), 0);
        due.due("light", light.spot(4, 4, 1), 0);
    }

    private static void shownAndVerdict(Due due, Light light, int asked, int shown, int verdict) {
        light.ask(4, 4, asked);
        due.due("shown for " + asked, light.spot(4, 4, 3), shown);
        due.due("verdict for " + asked, light.spot(4, 4, 4), verdict);
    }

    private static void shownOrLeak(Due due) {
        due.terms(14, "What is shown by a spot is light * g / 255, or, if that is more, the leak");
        Light light = shining(200);
        light.set(5, 50);
        due.due("leak", light.zone(7, 6), 10);
        shownAndVerdict(due, light, 9, 10, 2);
        shownAndVerdict(due, light, 10, 10, 0);
        shownAndVerdict(due, light, 11, 11, 0);
        shownAndVerdict(due, light, 200, 200, 0);
        shownAndVerdict(due, light, 255, 200, 1);
        light.set(5, 0);
        shownAndVerdict(due, light, 9, 9, 0);
        shownAndVerdict(due, light, 0, 0, 0);
    }

    private static void leakWithoutGlass(Due due) {
        due.terms(14, "the leak of the light: light * (setting 5) / 1000.");
        Light light = shining(250);
        light.set(5, 3);
        due.due("750 / 1000", light.spot(4, 4, 3), 0);
        light.set(5, 4);
        due.due("1000 / 1000", light.spot(4, 4, 3), 1);
        light.set(5, 50);
        due.due("12500 / 1000", light.spot(4, 4, 3), 12);
        Light dark = new Light();
        dark.set(5, 50);
        due.due("no light leaks not", dark.spot(4, 4, 3), 0);
    }

    private static void shinesAsAsked(Due due) {
        due.terms(14, "A spot shines as asked if that is what is shown");
        Light light = shining(200);
        light.set(5, 50);
        shownAndVerdict(due, light, 200, 200, 0);
        shownAndVerdict(due, light, 199, 199, 0);
        shownAndVerdict(due, light, 10, 10, 0);
        due.due("all of them", light.count(4), 273);
    }

    private static void tooDarkOrTooBright(Due due) {
        due.terms(14, "it is too dark if less is shown, too bright if more.");
        Light light = shining(200);
        light.set(5, 50);
        shownAndVerdict(due, light, 201, 200, 1);
        shownAndVerdict(due, light, 255, 200, 1);
        shownAndVerdict(due, light, 9, 10, 2);
        shownAndVerdict(due, light, 0, 10, 2);
        due.due("too bright", light.zone(7, 8), 16);
        due.due("too dark", light.zone(7, 7), 0);
    }
}
