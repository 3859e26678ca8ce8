/** Promises 14 spot, 15 zone, 16 count and 17 meanShown. */
final class ToldTest {
    private static final int FAR = Integer.MAX_VALUE;
    private static final int DEEP = Integer.MIN_VALUE;

    public static void main(String[] args) {
        Due due = new Due();
        errors(due);
        spotsAsAsked(due);
        spotsTooBright(due);
        spotsTooDark(due);
        reach(due);
        sumThenQuotient(due);
        quotientsRoundedDown(due);
        lightIsBounded(due);
        zonesApartFromEachOther(due);
        counts(due);
        tellingChangesNothing(due);
        due.close("ToldTest");
    }

    /** Light of the own zone alone, so that a level is the light. */
    private static ZonedLight alone(String text) {
        ZonedLight light = Due.asking(text);
        light.set(0, 256);
        light.set(1, 0);
        light.set(2, 0);
        return light;
    }

    private static ZonedLight threeSpots() {
        return alone("4,4+1x1=200;5,4+1x1=100;6,4+1x1=3");
    }

    private static void spot(Due due, ZonedLight light, int x, int y, int... want) {
        for (int what = 0; what <= 4; what++) {
            due.due("spot(" + x + ", " + y + ", " + what + ")", light.spot(x, y, what), want[what]);
        }
    }

    private static void zone(Due due, ZonedLight light, int zone, int... want) {
        for (int what = 0; what <= 8; what++) {
            due.due("zone(" + zone + ", " + what + ")", light.zone(zone, what), want[what]);
        }
    }

    private static void countSpots(Due due, ZonedLight light, int... want) {
        for (int what = 4; what <= 8; what++) {
            due.due("count(" + what + ")", light.count(what), want[what - 4]);
        }
    }

    private static void errors(Due due) {
        ZonedLight light = threeSpots();
        int[] below = {-1, DEEP};
        int[] above = {0, FAR};
        for (int i = 0; i < 2; i++) {
            for (int what : new int[] {-1, 0, 5, FAR, DEEP}) {
                due.due("spot x", light.spot(below[i], 0, what), -1);
                due.due("spot x", light.spot(24 + above[i] / 2, 0, what), -1);
                due.due("spot y", light.spot(0, below[i], what), -1);
                due.due("spot y", light.spot(0, 12 + above[i] / 2, what), -1);
                due.due("zone", light.zone(below[i], what), -1);
                due.due("zone", light.zone(18 + above[i] / 2, what), -1);
            }
        }
        for (int what : new int[] {-1, DEEP, FAR}) {
            due.due("spot what", light.spot(0, 0, what), -2);
            due.due("zone what", light.zone(0, what), -2);
            due.due("count what", light.count(what), -2);
        }
        due.due("spot what", light.spot(23, 11, 5), -2);
        due.due("zone what", light.zone(17, 9), -2);
        due.due("count what", light.count(21), -2);
        due.due("count last", light.count(20), 255);
    }

    private static void spotsAsAsked(Due due) {
        ZonedLight light = threeSpots();
        spot(due, light, 4, 4, 200, 0, 0, 0, 1);
        zone(due, light, 7, 0, 200, 0, 0, 200, 18, 0, 3, 0);
        countSpots(due, light, 285, 3, 0, 303, 200);
        light.pass(1);
        spot(due, light, 4, 4, 200, 200, 255, 200, 0);
        spot(due, light, 5, 4, 100, 200, 128, 100, 0);
        spot(due, light, 6, 4, 3, 200, 4, 3, 0);
        spot(due, light, 7, 7, 0, 200, 0, 0, 0);
        spot(due, light, 3, 3, 0, 0, 0, 0, 0);
        zone(due, light, 7, 200, 200, 200, 0, 200, 18, 0, 0, 0);
        countSpots(due, light, 288, 0, 0, 0, 0);
        due.due("meanShown()", light.meanShown(), 303 / 288.0);
    }

    private static void spotsTooBright(Due due) {
        ZonedLight light = threeSpots();
        light.pass(1);
        light.set(5, 50);
        spot(due, light, 4, 4, 200, 200, 255, 200, 0);
        spot(due, light, 6, 4, 3, 200, 4, 10, 2);
        spot(due, light, 7, 7, 0, 200, 0, 10, 2);
        spot(due, light, 8, 7, 0, 0, 0, 0, 0);
        zone(due, light, 7, 200, 59, 200, 0, 200, 18, 10, 0, 14);
        countSpots(due, light, 274, 0, 14, 137, 10);
        due.due("meanShown()", light.meanShown(), 440 / 288.0);
    }

    private static void spotsTooDark(Due due) {
        ZonedLight light = threeSpots();
        light.set(5, 50);
        light.pass(1);
        spot(due, light, 4, 4, 200, 59, 255, 59, 1);
        spot(due, light, 5, 4, 100, 59, 255, 59, 1);
        spot(due, light, 6, 4, 3, 59, 13, 3, 0);
        spot(due, light, 7, 7, 0, 59, 0, 2, 2);
        zone(due, light, 7, 59, 59, 59, 0, 200, 18, 2, 2, 13);
        countSpots(due, light, 273, 2, 13, 208, 141);
        due.due("meanShown()", light.meanShown(), (59 + 59 + 3 + 26) / 288.0);
    }

    private static void reach(Due due) {
        ZonedLight light = Due.asking("4,4+4x4=128");
        light.set(0, 256);
        light.set(1, 30);
        light.set(2, 9);
        light.pass(1);
        int[] fromSeven = {15, 15, 15, 4, 0, 0, 15, 128, 15, 4, 0, 0, 15, 15, 15, 4, 0, 0};
        lights(due, light, fromSeven);
        ZonedLight corner = Due.asking("0,0+4x4=128");
        corner.set(0, 256);
        corner.set(1, 30);
        corner.set(2, 9);
        corner.pass(1);
        int[] fromZero = {128, 15, 4, 0, 0, 0, 15, 15, 4, 0, 0, 0, 4, 4, 4, 0, 0, 0};
        lights(due, corner, fromZero);
        // no other setting serves as the share of those that are 3 apart
        corner.set(3, 2);
        lights(due, corner, fromZero);
    }

    private static void lights(Due due, ZonedLight light, int[] want) {
        for (int x = 0; x < 24; x++) {
            for (int y = 0; y < 12; y++) {
                int zone = 6 * (y / 4) + x / 4;
                due.due("spot(" + x + ", " + y + ", 1)", light.spot(x, y, 1), want[zone]);
                due.due("zone(" + zone + ", 2)", light.zone(zone, 2), want[zone]);
            }
        }
    }

    private static void sumThenQuotient(Due due) {
        ZonedLight light = Due.asking("4,4+4x4=15;12,4+4x4=15");
        light.set(0, 256);
        light.set(2, 0);
        light.pass(1);
        due.due("level", light.zone(7, 0), 15);
        due.due("level", light.zone(9, 0), 15);
        due.due("between them", light.zone(8, 2), 1);
        due.due("beside one", light.zone(6, 2), 0);
    }

    private static void quotientsRoundedDown(Due due) {
        ZonedLight light = Due.asking("0,0+4x4=17");
        light.set(0, 256);
        light.set(1, 15);
        light.pass(1);
        due.due("255 / 256", light.zone(1, 2), 0);
        ZonedLight leak = alone("0,0+4x4=27;4,0+4x4=250");
        leak.set(5, 37);
        leak.pass(1);
        due.due("999 / 1000", leak.zone(0, 6), 0);
        due.due("9250 / 1000", leak.zone(1, 6), 9);
        leak.set(5, 4);
        due.due("1000 / 1000", leak.zone(1, 6), 1);
    }

    /** What one zone tells has nothing of what was told before. */
    private static void zonesApartFromEachOther(Due due) {
        ZonedLight light = threeSpots();
        light.set(5, 50);
        light.pass(1);
        due.due("too bright", light.zone(7, 8), 13);
        due.due("of another zone", light.zone(8, 8), 0);
        due.due("too dark", light.zone(7, 7), 2);
        due.due("of another zone", light.zone(8, 7), 0);
        due.due("of all", light.count(6), 13);
    }

    private static void lightIsBounded(Due due) {
        ZonedLight light = Due.asking("0,0+24x12=255");
        light.set(0, 256);
        due.due("pass", light.pass(1), 18 * 255);
        for (int zone = 0; zone < 18; zone++) {
            zone(due, light, zone, 255, 255, 255, 0, 255, 255, 1, 0, 0);
        }
        spot(due, light, 0, 0, 255, 255, 255, 255, 0);
        due.due("meanShown()", light.meanShown(), 255.0);
        countSpots(due, light, 288, 0, 0, 0, 0);
    }

    private static void counts(Due due) {
        ZonedLight light = threeSpots();
        light.kill(0, true);
        light.kill(17, true);
        light.set(7, 120);
        light.pass(1);
        Due.write(light, "abc");
        int[] want = {1, 120, 120, 120, 287, 1, 0, 80, 80, 2, 0, 4, 3, 256, 0, 0, 0, 3, 4, 2, 120};
        for (int what = 0; what <= 20; what++) {
            due.due("counts: count(" + what + ")", light.count(what), want[what]);
        }
        light.pass(1);
        due.due("power of frames", light.count(3), 320);
        due.due("flicker", light.count(2), 200);
        due.due("rests", light.count(10), 1);
        due.due("dead", light.zone(17, 3), 1);
        due.due("not dead", light.zone(16, 3), 0);
        light.set(3, 1);
        light.set(4, 0);
        due.due("rests not", light.count(10), 0);
        due.due("rule", light.count(16), 1);
        due.due("rounds", light.count(17), 0);
    }

    private static void tellingChangesNothing(Due due) {
        ZonedLight light = threeSpots();
        light.set(7, 7);
        light.pass(3);
        int[] before = new int[21];
        for (int round = 0; round < 2; round++) {
            for (int what = 0; what <= 20; what++) {
                int got = light.count(what);
                due.due("count(" + what + ") again", got, round == 0 ? got : before[what]);
                before[what] = got;
            }
            light.meanShown();
            light.restsIn();
            light.ifRule(2, 0);
            light.bestRule();
            light.leastStep(2);
            light.dearest(0);
            light.zone(7, 1);
            light.spot(4, 4, 3);
        }
        due.due("level", light.zone(7, 0), 21);
    }
}
