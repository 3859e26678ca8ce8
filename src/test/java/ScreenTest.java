/** The terms THE SCREEN and SETTINGS. */
final class ScreenTest {
    public static void main(String[] args) {
        Due due = new Due();
        spots(due);
        zones(due);
        zoneOfSpot(due);
        brightnessAsked(due);
        levelFrom0To255(due);
        deadOrNot(due);
        apart(due);
        ownShare(due);
        shareOf1Apart(due);
        shareOf2Apart(due);
        rule(due);
        rounds(due);
        leak(due);
        halo(due);
        step(due);
        due.close("ScreenTest");
    }

    private static void spots(Due due) {
        due.terms(14, "The screen has 24 spots from left to right, x 0 to 23, and 12 from above, y 0 to 11.");
        Light light = new Light();
        light.ask(0, 0, 1);
        light.ask(23, 0, 2);
        light.ask(0, 11, 3);
        light.ask(23, 11, 4);
        due.due("spot(0, 0, 0)", light.spot(0, 0, 0), 1);
        due.due("spot(23, 0, 0)", light.spot(23, 0, 0), 2);
        due.due("spot(0, 11, 0)", light.spot(0, 11, 0), 3);
        due.due("spot(23, 11, 0)", light.spot(23, 11, 0), 4);
        due.due("spot(24, 0, 0)", light.spot(24, 0, 0), -1);
        due.due("spot(-1, 0, 0)", light.spot(-1, 0, 0), -1);
        due.due("spot(0, 12, 0)", light.spot(0, 12, 0), -1);
        due.due("spot(0, -1, 0)", light.spot(0, -1, 0), -1);
        // a row's end is not the next row's start
        due.due("spot(24, 10, 0)", light.spot(24, 10, 0), -1);
        due.due("spot(-1, 1, 0)", light.spot(-1, 1, 0), -1);
        due.due("spot(47, 10, 0)", light.spot(47, 10, 0), -1);
    }

    private static void zones(Due due) {
        due.terms(15, "It has 18 zones of 4 x 4 spots");
        Light light = Light.asking("0,0+24x12=16");
        for (int zone = 0; zone < 18; zone++) {
            due.due("zone(" + zone + ", 4)", light.zone(zone, 4), 16);
            due.due("zone(" + zone + ", 5)", light.zone(zone, 5), 16);
        }
        due.due("zone(18, 4)", light.zone(18, 4), -1);
        due.due("zone(-1, 4)", light.zone(-1, 4), -1);
    }

    private static void zoneOfSpot(Due due) {
        due.terms(15, "the zone of a spot is 6 * (y / 4) + x / 4.");
        for (int y = 0; y < 12; y++) {
            for (int x = 0; x < 24; x++) {
                Light light = new Light();
                light.ask(x, y, 16);
                for (int zone = 0; zone < 18; zone++) {
                    int want = zone == 6 * (y / 4) + x / 4 ? 1 : 0;
                    due.due(x + ", " + y + " in zone " + zone, light.zone(zone, 5), want);
                }
            }
        }
    }

    private static void brightnessAsked(Due due) {
        due.terms(2, "For each spot a brightness is asked (0 to 255; 0 at first): the picture.");
        for (int y = 0; y < 12; y++) {
            Light light = new Light();
            for (int x = 0; x < 24; x++) {
                due.due("spot at first", light.spot(x, y, 0), 0);
                due.due("ask 255", light.ask(x, y, 255), 0);
                due.due("ask 256", light.ask(x, y, 256), -2);
                due.due("spot", light.spot(x, y, 0), 255);
                due.due("ask 0", light.ask(x, y, 0), 255);
                due.due("ask -1", light.ask(x, y, -1), -2);
                due.due("spot", light.spot(x, y, 0), 0);
            }
        }
    }

    private static void levelFrom0To255(Due due) {
        due.terms(15, "Each zone has a level (0 to 255; 0 at first)");
        Light light = new Light().with(100, 0, 0);
        for (int zone = 0; zone < 18; zone++) {
            due.due("level at first", light.zone(zone, 0), 0);
        }
        light.askAll("0,0+24x12=255");
        light.pass(99);
        for (int zone = 0; zone < 18; zone++) {
            due.due("level", light.zone(zone, 0), 255);
        }
        light.set(7, 200);
        light.askAll("0,0+24x12=0");
        light.pass(1);
        due.due("level by 200 lower", light.zone(4, 0), 55);
        light.pass(99);
        for (int zone = 0; zone < 18; zone++) {
            due.due("level", light.zone(zone, 0), 0);
        }
    }

    private static void deadOrNot(Due due) {
        due.terms(15, "and is dead or not (not at first); a dead one has the level 0.");
        for (int zone = 0; zone < 18; zone++) {
            Light light = Light.asking("0,0+24x12=99");
            due.due("dead at first", light.zone(zone, 3), 0);
            light.pass(1);
            due.due("level", light.zone(zone, 0), 140);
            light.kill(zone, true);
            due.due("dead", light.zone(zone, 3), 1);
            due.due("level of the dead", light.zone(zone, 0), 0);
            light.pass(2);
            due.due("level of the dead after frames", light.zone(zone, 0), 0);
            due.due("dead ones", light.count(9), 1);
        }
    }

    /** Each zone alone is lit by 255; shares of 30 and 9 of 256 reach those that are 1 and 2 apart. */
    private static void apart(Due due) {
        due.terms(14, "Two zones are as far apart as the greater one of the differences of their columns");
        int[] lightApart = {255, 29, 8, 0, 0, 0};
        for (int lit = 0; lit < 18; lit++) {
            Light light = new Light().with(256, 30, 9, 0, 0);
            light.ask(lit % 6 * 4, lit / 6 * 4, 255);
            light.pass(1);
            for (int zone = 0; zone < 18; zone++) {
                int columns = Math.abs(zone % 6 - lit % 6);
                int rows = Math.abs(zone / 6 - lit / 6);
                String call = "light of " + zone + " by zone " + lit;
                due.due(call, light.zone(zone, 2), lightApart[Math.max(columns, rows)]);
            }
        }
    }

    private static void range(Due due, int which, int least, int first, int greatest) {
        Light light = new Light();
        String name = "set(" + which + ", ";
        due.due("first value", light.count(13 + which), first);
        due.due(name + (least - 1) + ")", light.set(which, least - 1), -2);
        due.due(name + (greatest + 1) + ")", light.set(which, greatest + 1), -2);
        due.due("value still", light.count(13 + which), first);
        due.due(name + least + ")", light.set(which, least), first == least ? -5 : first);
        due.due("the least", light.count(13 + which), least);
        due.due(name + greatest + ")", light.set(which, greatest), least);
        due.due("the greatest", light.count(13 + which), greatest);
        due.due("a little less", light.set(which, greatest - 1), greatest);
        due.check("the least and 1 is in its range", light.set(which, least + 1) != -2);
    }

    private static void ownShare(Due due) {
        due.terms(7, "0 the own share (100 to 256; 180)");
        range(due, 0, 100, 180, 256);
        Light light = Light.asking("0,0+4x4=150").with(180, 0, 0, 0, 0);
        light.pass(1);
        due.due("level for 150 by 180", light.zone(0, 0), 213);
        due.due("light by 180", light.zone(0, 2), 149);
        light.set(0, 100);
        due.due("light by 100", light.zone(0, 2), 83);
        light.set(0, 256);
        due.due("light by 256", light.zone(0, 2), 213);
    }

    private static Light litByNeighbour(int zone) {
        Light light = new Light().with(256);
        light.ask(zone * 4, 0, 255);
        light.pass(1);
        return light;
    }

    private static void shareOf1Apart(Due due) {
        due.terms(7, "1 the share of zones that are 1 apart (0 to 30; 9)");
        range(due, 1, 0, 9, 30);
        Light light = litByNeighbour(0);
        due.due("light by 9", light.zone(1, 2), 8);
        light.set(1, 30);
        due.due("light by 30", light.zone(1, 2), 29);
        light.set(1, 0);
        due.due("light by 0", light.zone(1, 2), 0);
        due.due("light of the own", light.zone(0, 2), 255);
    }

    private static void shareOf2Apart(Due due) {
        due.terms(7, "2 of those that are 2 apart (0 to 9; 1)");
        range(due, 2, 0, 1, 9);
        Light light = litByNeighbour(2);
        due.due("light by 1", light.zone(0, 2), 0);
        light.set(2, 2);
        due.due("light by 2", light.zone(0, 2), 1);
        light.set(2, 9);
        due.due("light by 9", light.zone(0, 2), 8);
        due.due("light by 9, 3 apart", light.zone(5, 2), 0);
        light.set(2, 0);
        due.due("light by 0", light.zone(0, 2), 0);
    }

    private static void rule(Due due) {
        due.terms(7, "3 the rule (0 to 2; 0)");
        range(due, 3, 0, 0, 2);
        Light light = Light.alone("0,0+1x1=160");
        due.due("wanted by rule 0", light.zone(0, 1), 160);
        light.set(3, 1);
        due.due("wanted by rule 1", light.zone(0, 1), 85);
        light.set(3, 2);
        due.due("wanted by rule 2", light.zone(0, 1), 10);
    }

    private static void rounds(Due due) {
        due.terms(7, "4 the rounds (0 to 9; 3)");
        range(due, 4, 0, 3, 9);
        Light light = new Light().with(256, 0, 0, 2);
        light.ask(0, 0, 160);
        due.due("wanted by 3 rounds", light.zone(0, 1), 160);
        light.set(4, 0);
        due.due("wanted by no round", light.zone(0, 1), 10);
        light.set(4, 9);
        due.due("wanted by 9 rounds", light.zone(0, 1), 160);
    }

    private static void leak(Due due) {
        due.terms(7, "5 the leak in thousandths (0 to 50; 4)");
        range(due, 5, 0, 4, 50);
        Light light = Light.alone("0,0+4x4=255");
        light.pass(1);
        due.due("leak by 4", light.zone(0, 6), 1);
        light.set(5, 50);
        due.due("leak by 50", light.zone(0, 6), 12);
        light.set(5, 0);
        due.due("leak by 0", light.zone(0, 6), 0);
    }

    private static void halo(Due due) {
        due.terms(7, "6 the halo (0 to 20; 2)");
        range(due, 6, 0, 2, 20);
        Light light = Light.alone("0,0+1x1=255");
        light.set(5, 50);
        due.due("wanted by 2", light.zone(0, 1), 59);
        light.set(6, 0);
        due.due("wanted by 0", light.zone(0, 1), 19);
        light.set(6, 20);
        due.due("wanted by 20", light.zone(0, 1), 255);
    }

    private static void step(Due due) {
        due.terms(7, "7 the step (1 to 255; 255)");
        range(due, 7, 1, 255, 255);
        Light light = Light.alone("0,0+4x4=255");
        light.set(7, 1);
        due.due("one frame by 1", light.pass(1), 1);
        light.undo();
        light.set(7, 255);
        due.due("one frame by 255", light.pass(1), 255);
    }
}
