/** Promises 14 spot, 15 zone, 16 count and 17 meanShown. */
final class ToldTest {
    public static void main(String[] args) {
        Due due = new Due();
        spotX(due);
        spotY(due);
        spotWhat(due);
        spotNumbers(due);
        spotErrors(due);
        zoneZone(due);
        zoneWhat(due);
        zoneNumbers(due);
        zoneOfItsOwn(due);
        zoneErrors(due);
        countWhat(due);
        countFrames(due);
        countSpots(due);
        countRests(due);
        countHistoryAndText(due);
        countSettings(due);
        countErrors(due);
        meanShown(due);
        meanOfEnds(due);
        due.close("ToldTest");
    }

    private static Light threeSpots() {
        return Light.alone("4,4+1x1=200;5,4+1x1=100;6,4+1x1=3");
    }

    private static void spot(Due due, Light light, int x, int y, int... want) {
        for (int what = 0; what <= 4; what++) {
            due.due("spot(" + x + ", " + y + ", " + what + ")", light.spot(x, y, what), want[what]);
        }
    }

    private static void zone(Due due, Light light, int zone, int... want) {
        for (int what = 0; what <= 8; what++) {
            due.due("zone(" + zone + ", " + what + ")", light.zone(zone, what), want[what]);
        }
    }

    private static void spots(Due due, Light light, int... want) {
        for (int what = 4; what <= 8; what++) {
            due.due("count(" + what + ")", light.count(what), want[what - 4]);
        }
    }

    private static void spotX(Due due) {
        due.promise(14, "- `x`: 0 to 23");
        Light light = Light.asking("0,5+1x1=1;23,5+1x1=2");
        due.due("spot(0, 5, 0)", light.spot(0, 5, 0), 1);
        due.due("spot(23, 5, 0)", light.spot(23, 5, 0), 2);
        for (int what = 0; what <= 4; what++) {
            due.due("spot(-1, 5, " + what + ")", light.spot(-1, 5, what), -1);
            due.due("spot(24, 5, " + what + ")", light.spot(24, 5, what), -1);
            for (int x : Light.OUTSIDE) {
                due.due("spot(" + x + ", 5, " + what + ")", light.spot(x, 5, what), -1);
            }
        }
    }

    private static void spotY(Due due) {
        due.promise(14, "- `y`: 0 to 11");
        Light light = Light.asking("5,0+1x1=1;5,11+1x1=2");
        due.due("spot(5, 0, 0)", light.spot(5, 0, 0), 1);
        due.due("spot(5, 11, 0)", light.spot(5, 11, 0), 2);
        for (int what = 0; what <= 4; what++) {
            due.due("spot(5, -1, " + what + ")", light.spot(5, -1, what), -1);
            due.due("spot(5, 12, " + what + ")", light.spot(5, 12, what), -1);
            for (int y : Light.OUTSIDE) {
                due.due("spot(5, " + y + ", " + what + ")", light.spot(5, y, what), -1);
            }
        }
    }

    private static void spotWhat(Due due) {
        due.promise(14, "- `what`: 0 for the brightness that is asked, 1 for the light, 2 for what");
        Light light = threeSpots();
        spot(due, light, 4, 4, 200, 0, 0, 0, 1);
        light.pass(1);
        spot(due, light, 4, 4, 200, 200, 255, 200, 0);
        due.due("spot(4, 4, -1)", light.spot(4, 4, -1), -2);
        due.due("spot(4, 4, 5)", light.spot(4, 4, 5), -2);
        for (int what : Light.OUTSIDE) {
            due.due("spot(4, 4, " + what + ")", light.spot(4, 4, what), -2);
        }
    }

    private static void spotNumbers(Due due) {
        due.promise(14, "4 for 0 if it shines as asked, 1 if it is too dark, 2 if it is too bright");
        Light light = threeSpots();
        light.pass(1);
        spot(due, light, 5, 4, 100, 200, 128, 100, 0);
        spot(due, light, 6, 4, 3, 200, 4, 3, 0);
        spot(due, light, 7, 7, 0, 200, 0, 0, 0);
        spot(due, light, 3, 3, 0, 0, 0, 0, 0);
        light.set(5, 50);
        spot(due, light, 4, 4, 200, 200, 255, 200, 0);
        spot(due, light, 6, 4, 3, 200, 4, 10, 2);
        spot(due, light, 7, 7, 0, 200, 0, 10, 2);
        spot(due, light, 8, 7, 0, 0, 0, 0, 0);
        light.pass(1);
        spot(due, light, 4, 4, 200, 59, 255, 59, 1);
        spot(due, light, 5, 4, 100, 59, 255, 59, 1);
        spot(due, light, 6, 4, 3, 59, 13, 3, 0);
        spot(due, light, 7, 7, 0, 59, 0, 2, 2);
    }

    private static void spotErrors(Due due) {
        due.promise(14, "Returns the number; UNKNOWN; BAD_VALUE.");
        Light light = new Light();
        due.due("spot(23, 11, 4)", light.spot(23, 11, 4), 0);
        due.due("spot(24, 11, 4)", light.spot(24, 11, 4), -1);
        due.due("spot(23, 12, 4)", light.spot(23, 12, 4), -1);
        due.due("spot(23, 11, 5)", light.spot(23, 11, 5), -2);
        due.due("spot(24, 11, 5)", light.spot(24, 11, 5), -1);
        due.due("spot(23, 12, 5)", light.spot(23, 12, 5), -1);
    }

    private static void zoneZone(Due due) {
        due.promise(15, "- `zone`: 0 to 17");
        Light light = Light.asking("0,0+4x4=1;20,8+4x4=2");
        due.due("zone(0, 4)", light.zone(0, 4), 1);
        due.due("zone(17, 4)", light.zone(17, 4), 2);
        for (int what = 0; what <= 8; what++) {
            due.due("zone(-1, " + what + ")", light.zone(-1, what), -1);
            due.due("zone(18, " + what + ")", light.zone(18, what), -1);
            for (int zone : Light.OUTSIDE) {
                due.due("zone(" + zone + ", " + what + ")", light.zone(zone, what), -1);
            }
        }
    }

    private static void zoneWhat(Due due) {
        due.promise(15, "- `what`: 0 for its level, 1 for the wanted one, 2 for its light");
        Light light = threeSpots();
        zone(due, light, 7, 0, 200, 0, 0, 200, 18, 0, 3, 0);
        light.pass(1);
        zone(due, light, 7, 200, 200, 200, 0, 200, 18, 0, 0, 0);
        due.due("zone(7, -1)", light.zone(7, -1), -2);
        due.due("zone(7, 9)", light.zone(7, 9), -2);
        for (int what : Light.OUTSIDE) {
            due.due("zone(7, " + what + ")", light.zone(7, what), -2);
        }
    }

    private static void zoneNumbers(Due due) {
        due.promise(15, "3 for whether it is dead (1, otherwise 0), 4 for the greatest brightness");
        Light light = threeSpots();
        light.pass(1);
        light.set(5, 50);
        zone(due, light, 7, 200, 59, 200, 0, 200, 18, 10, 0, 14);
        light.pass(1);
        zone(due, light, 7, 59, 59, 59, 0, 200, 18, 2, 2, 13);
        light.kill(7, true);
        zone(due, light, 7, 0, 0, 0, 1, 200, 18, 0, 3, 0);
        light.askAll("4,4+4x4=255");
        light.kill(7, false);
        zone(due, light, 7, 0, 255, 0, 0, 255, 255, 0, 16, 0);
        light.pass(1);
        zone(due, light, 7, 255, 255, 255, 0, 255, 255, 12, 0, 0);
        light.askAll("4,4+4x4=0");
        zone(due, light, 7, 255, 0, 255, 0, 0, 0, 12, 0, 16);
    }

    /** What one zone tells has nothing of what was told before, or of other zones. */
    private static void zoneOfItsOwn(Due due) {
        due.promise(15, "7 for how many of its spots are too dark, 8 for how many are too bright");
        Light light = threeSpots();
        light.set(5, 50);
        light.pass(1);
        due.due("too bright", light.zone(7, 8), 13);
        due.due("of another zone", light.zone(8, 8), 0);
        due.due("too dark", light.zone(7, 7), 2);
        due.due("of another zone", light.zone(8, 7), 0);
        due.due("too bright again", light.zone(7, 8), 13);
        light.askAll("3,3+6x6=255");
        int[] dark = {1, 4, 1, 0, 0, 0, 4, 16, 4, 0, 0, 0, 1, 4, 1, 0, 0, 0};
        for (int zone = 0; zone < 18; zone++) {
            due.due("too dark in zone " + zone, light.zone(zone, 7), dark[zone]);
        }
    }

    private static void zoneErrors(Due due) {
        due.promise(15, "Returns the number; UNKNOWN; BAD_VALUE.");
        Light light = new Light();
        due.due("zone(17, 8)", light.zone(17, 8), 0);
        due.due("zone(18, 8)", light.zone(18, 8), -1);
        due.due("zone(17, 9)", light.zone(17, 9), -2);
        due.due("zone(18, 9)", light.zone(18, 9), -1);
        due.due("zone(-1, -1)", light.zone(-1, -1), -1);
    }

    private static void countWhat(Due due) {
        due.promise(16, "- `what`: 0 for the frames so far, 1 for the power (the sum of the levels now)");
        Light light = threeSpots();
        light.kill(0, true);
        light.kill(17, true);
        light.set(7, 120);
        light.pass(1);
        light.write("abc");
        int[] want = {1, 120, 120, 120, 287, 1, 0, 80, 80, 2, 0, 4, 3, 256, 0, 0, 0, 0, 4, 2, 120};
        for (int what = 0; what <= 20; what++) {
            due.due("count(" + what + ")", light.count(what), want[what]);
        }
        due.due("count(-1)", light.count(-1), -2);
        due.due("count(21)", light.count(21), -2);
        for (int what : Light.OUTSIDE) {
            due.due("count(" + what + ")", light.count(what), -2);
        }
    }

    private static void countFrames(Due due) {
        due.promise(16, "2 for the flicker so far, 3 for the power of all frames so far together");
        Light light = threeSpots();
        light.set(7, 120);
        for (int what = 0; what <= 3; what++) {
            due.due("count(" + what + ") at first", light.count(what), 0);
        }
        light.pass(3);
        int[] want = {3, 200, 200, 120 + 200 + 200};
        for (int what = 0; what <= 3; what++) {
            due.due("count(" + what + ")", light.count(what), want[what]);
        }
        light.kill(7, true);
        due.due("the power is that of now", light.count(1), 0);
        due.due("the power of all frames stays", light.count(3), 520);
        due.due("the flicker stays", light.count(2), 200);
    }

    private static void countSpots(Due due) {
        due.promise(16, "7 for by how much spots are off, all together, 8 for the greatest of that");
        Light light = threeSpots();
        spots(due, light, 285, 3, 0, 303, 200);
        light.pass(1);
        spots(due, light, 288, 0, 0, 0, 0);
        light.set(5, 50);
        spots(due, light, 274, 0, 14, 137, 10);
        light.pass(1);
        spots(due, light, 273, 2, 13, 208, 141);
        Light dark = Light.asking("0,0+24x12=255");
        spots(due, dark, 0, 288, 0, 288 * 255, 255);
        Light bright = Light.asking("0,0+24x12=255").with(256, 9, 1, 0, 3, 50, 20);
        bright.pass(1);
        spots(due, bright, 288, 0, 0, 0, 0);
        bright.askAll("0,0+24x12=0");
        spots(due, bright, 0, 0, 288, 288 * 12, 12);
        Light ends = Light.asking("0,0+1x1=9;23,11+1x1=9");
        spots(due, ends, 286, 2, 0, 18, 9);
    }

    private static void countRests(Due due) {
        due.promise(16, "9 for dead zones, 10 for whether all rests (1, otherwise 0)");
        Light light = threeSpots();
        due.due("rests not", light.count(10), 0);
        light.pass(1);
        due.due("rests", light.count(10), 1);
        due.due("none is dead", light.count(9), 0);
        for (int zone = 0; zone < 18; zone++) {
            light.kill(zone, true);
            due.due("dead", light.count(9), zone + 1);
        }
        due.due("all dead ones rest", light.count(10), 1);
        light.kill(7, false);
        due.due("dead", light.count(9), 17);
        due.due("rests not", light.count(10), 0);
    }

    private static void countHistoryAndText(Due due) {
        due.promise(16, "11 for the states in the history, 12 for the length of the text");
        Light light = new Light();
        for (int acts = 0; acts <= 5; acts++) {
            due.due("states", light.count(11), Math.min(4, acts));
            light.move(0);
        }
        light.undo();
        due.due("states", light.count(11), 3);
        for (int length = 0; length <= 60; length++) {
            due.due("length", light.count(12), length);
            light.type('x');
        }
        due.due("length", light.count(12), 60);
    }

    private static void countSettings(Due due) {
        due.promise(16, "13 to 20 for the settings");
        Light light = new Light().with(101, 2, 3, 1, 5, 6, 7, 8);
        int[] want = {101, 2, 3, 1, 5, 6, 7, 8};
        for (int which = 0; which < 8; which++) {
            due.due("count(" + (13 + which) + ")", light.count(13 + which), want[which]);
        }
    }

    private static void countErrors(Due due) {
        due.promise(16, "Returns the number; BAD_VALUE.");
        Light light = new Light();
        due.due("count(20)", light.count(20), 255);
        due.due("count(21)", light.count(21), -2);
        due.due("count(0)", light.count(0), 0);
        due.due("count(-1)", light.count(-1), -2);
    }

    private static void meanShown(Due due) {
        due.promise(17, "the sum of what all spots show, as a double, divided by 288.0.");
        Light light = threeSpots();
        due.due("dark", light.meanShown(), 0.0);
        light.pass(1);
        due.due("as asked", light.meanShown(), 303 / 288.0);
        light.set(5, 50);
        due.due("with the leak", light.meanShown(), 440 / 288.0);
        light.pass(1);
        due.due("too dark", light.meanShown(), (59 + 59 + 3 + 13 * 2) / 288.0);
        due.due("again", light.meanShown(), (59 + 59 + 3 + 13 * 2) / 288.0);
    }

    private static void meanOfEnds(Due due) {
        due.promise(17, "Returns the mean.");
        Light least = Light.alone("23,11+1x1=1");
        least.pass(1);
        due.due("one spot of 1", least.meanShown(), 1 / 288.0);
        Light most = Light.asking("0,0+24x12=255").with(256);
        due.due("asked but not lit", most.meanShown(), 0.0);
        most.pass(1);
        due.due("all of 255", most.meanShown(), 255.0);
        most.ask(0, 0, 254);
        due.due("all but one", most.meanShown(), (287 * 255 + 254) / 288.0);
    }
}
