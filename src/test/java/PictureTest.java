/** Promises 2 ask, 3 askAll and 4 move. */
final class PictureTest {
    public static void main(String[] args) {
        Due due = new Due();
        asksForOneSpot(due);
        askX(due);
        askY(due);
        askBright(due);
        askReturnsPrevious(due);
        askUnknown(due);
        askBadValue(due);
        askSoAlready(due);
        askIsAnAct(due);
        askAllStays(due);
        askAllPartByPart(due);
        askAllLeavesOthers(due);
        askAllReturnsHowMany(due);
        askAllReturnsFault(due);
        askAllIsAnAct(due);
        movesByOne(due);
        blackComesIn(due);
        moveWay(due);
        moveReturnsHowMany(due);
        moveBadValue(due);
        moveIsAnAct(due);
        due.close("PictureTest");
    }

    private static void asksForOneSpot(Due due) {
        due.promise(2, "Asks a brightness for a spot.");
        Light light = new Light();
        light.ask(5, 6, 77);
        int sum = 0;
        for (int y = 0; y < 12; y++) {
            for (int x = 0; x < 24; x++) {
                sum += light.spot(x, y, 0);
            }
        }
        due.due("spot", light.spot(5, 6, 0), 77);
        due.due("all spots together", sum, 77);
        due.due("levels stay", light.count(1), 0);
        due.due("frames stay", light.count(0), 0);
    }

    private static void askX(Due due) {
        due.promise(2, "- `x`: 0 to 23");
        Light light = new Light();
        due.due("ask(0, 5, 1)", light.ask(0, 5, 1), 0);
        due.due("ask(23, 5, 2)", light.ask(23, 5, 2), 0);
        due.due("ask(-1, 5, 3)", light.ask(-1, 5, 3), -1);
        due.due("ask(24, 5, 3)", light.ask(24, 5, 3), -1);
        for (int x : Light.OUTSIDE) {
            due.due("ask(" + x + ", 5, 3)", light.ask(x, 5, 3), -1);
        }
        due.due("no wrap-around to the left", light.spot(23, 4, 0), 0);
        due.due("no wrap-around to the right", light.spot(0, 6, 0), 0);
        due.due("spot", light.spot(0, 5, 0), 1);
        due.due("spot", light.spot(23, 5, 0), 2);
        due.due("states", light.count(11), 2);
    }

    private static void askY(Due due) {
        due.promise(2, "- `y`: 0 to 11");
        Light light = new Light();
        due.due("ask(5, 0, 1)", light.ask(5, 0, 1), 0);
        due.due("ask(5, 11, 2)", light.ask(5, 11, 2), 0);
        due.due("ask(5, -1, 3)", light.ask(5, -1, 3), -1);
        due.due("ask(5, 12, 3)", light.ask(5, 12, 3), -1);
        for (int y : Light.OUTSIDE) {
            due.due("ask(5, " + y + ", 3)", light.ask(5, y, 3), -1);
        }
        due.due("spot", light.spot(5, 0, 0), 1);
        due.due("spot", light.spot(5, 11, 0), 2);
        due.due("states", light.count(11), 2);
    }

    private static void askBright(Due due) {
        due.promise(2, "- `bright`: 0 to 255");
        Light light = new Light();
        due.due("ask(5, 5, 255)", light.ask(5, 5, 255), 0);
        due.due("ask(5, 5, 256)", light.ask(5, 5, 256), -2);
        due.due("ask(5, 5, -1)", light.ask(5, 5, -1), -2);
        for (int bright : Light.OUTSIDE) {
            due.due("ask(5, 5, " + bright + ")", light.ask(5, 5, bright), -2);
        }
        due.due("spot", light.spot(5, 5, 0), 255);
        due.due("ask(5, 5, 0)", light.ask(5, 5, 0), 255);
        due.due("spot", light.spot(5, 5, 0), 0);
        due.due("ask(5, 5, 1)", light.ask(5, 5, 1), 0);
        due.due("states", light.count(11), 3);
    }

    private static void askReturnsPrevious(Due due) {
        due.promise(2, "Returns the previous one");
        Light light = new Light();
        due.due("the first", light.ask(1, 1, 255), 0);
        due.due("after 255", light.ask(1, 1, 3), 255);
        due.due("after 3", light.ask(1, 1, 0), 3);
        due.due("after 0", light.ask(1, 1, 9), 0);
        due.due("of another spot", light.ask(1, 2, 9), 0);
        light.move(3);
        due.due("after a move", light.ask(1, 2, 4), 9);
        light.undo();
        due.due("after undo()", light.ask(1, 2, 5), 9);
    }

    private static void askUnknown(Due due) {
        due.promise(2, "UNKNOWN");
        Light light = new Light();
        due.due("x too great", light.ask(24, 11, 1), -1);
        due.due("y too great", light.ask(23, 12, 1), -1);
        due.due("both too small", light.ask(-1, -1, 1), -1);
        due.due("also with a wrong brightness", light.ask(24, 11, 256), -1);
        due.due("also with a wrong brightness", light.ask(23, -1, -1), -1);
        due.due("also with a brightness of 0", light.ask(0, 12, 0), -1);
        due.due("no act", light.count(11), 0);
    }

    private static void askBadValue(Due due) {
        due.promise(2, "BAD_VALUE");
        Light light = new Light();
        due.due("too bright", light.ask(23, 11, 256), -2);
        due.due("too dark", light.ask(0, 0, -1), -2);
        due.due("just bright", light.ask(23, 11, 255), 0);
        due.due("too bright", light.ask(23, 11, 256), -2);
        due.due("it stays", light.spot(23, 11, 0), 255);
        due.due("no act", light.count(11), 1);
    }

    private static void askSoAlready(Due due) {
        due.promise(2, "NONE if it is so already.");
        Light light = new Light();
        due.due("0 at first", light.ask(1, 1, 0), -5);
        light.ask(1, 1, 255);
        due.due("255 again", light.ask(1, 1, 255), -5);
        due.due("254", light.ask(1, 1, 254), 255);
        due.due("it records nothing", light.count(11), 2);
    }

    private static void askIsAnAct(Due due) {
        due.promise(2, "This is an act.");
        Light light = new Light();
        light.ask(1, 1, 7);
        light.ask(1, 1, 8);
        due.due("states", light.count(11), 2);
        light.undo();
        due.due("undone", light.spot(1, 1, 0), 7);
    }

    private static void askAllStays(Due due) {
        due.promise(3, "Asks the picture of the text, which stays");
        Light light = new Light().write("2,1+3x2=77");
        due.due("askAll()", light.askAll(), 6);
        due.due("length", light.count(12), 10);
        due.due("fault", light.fault(), -5);
        due.due("askAll() again", light.askAll(), 0);
        light.ask(2, 1, 5);
        due.due("askAll() again", light.askAll(), 1);
        light.typeOn("8");
        due.due("with one more character", light.fault(), 10);
    }

    private static void askAllPartByPart(Due due) {
        due.promise(3, "part by part");
        Light light = new Light();
        due.due("later parts win", light.askAll("0,0+4x4=9;1,1+2x2=0;2,2+1x1=9"), 13);
        due.due("the first part", light.spot(0, 0, 0), 9);
        due.due("the second part", light.spot(1, 1, 0), 0);
        due.due("the third part", light.spot(2, 2, 0), 9);
        Light six = new Light();
        due.due("six parts", six.askAll("0,0+1x1=1;2,0+1x1=2;4,0+1x1=3;6,0+1x1=4;8,0+1x1=5;9,0+1x1=6"), 6);
        due.due("the first of six", six.spot(0, 0, 0), 1);
        due.due("the sixth", six.spot(9, 0, 0), 6);
        due.due("one part afterwards", six.askAll("11,0+1x1=7"), 1);
        due.due("the sixth stays", six.ask(9, 0, 6), -5);
    }

    private static void askAllLeavesOthers(Due due) {
        due.promise(3, "spots that are in no part stay as they are.");
        Light light = Light.asking("0,0+24x12=5");
        due.due("askAll()", light.askAll("2,1+3x2=77;23,11+1x1=0"), 7);
        for (int y = 0; y < 12; y++) {
            for (int x = 0; x < 24; x++) {
                boolean inside = x >= 2 && x <= 4 && y >= 1 && y <= 2;
                int want = inside ? 77 : x == 23 && y == 11 ? 0 : 5;
                due.due("spot(" + x + ", " + y + ", 0)", light.spot(x, y, 0), want);
            }
        }
    }

    private static void askAllReturnsHowMany(Due due) {
        due.promise(3, "Returns for how many spots another brightness is asked then");
        Light light = new Light();
        due.due("black on black", light.askAll("0,0+24x12=0"), 0);
        due.due("one", light.askAll("7,7+1x1=1"), 1);
        due.due("all but one", light.askAll("0,0+24x12=1"), 287);
        due.due("none", light.askAll("0,0+24x12=1"), 0);
        due.due("all", light.askAll("0,0+24x12=255"), 288);
        due.due("there and back", light.askAll("5,5+3x3=8;5,5+3x3=255"), 0);
        due.due("twice in parts", light.askAll("5,5+3x3=8;5,5+3x3=9"), 9);
        due.due("not those beside the screen", light.askAll("22,10+24x12=3"), 4);
    }

    private static void askAllReturnsFault(Due due) {
        due.promise(3, "-100 minus the fault of the text if it has one (which is an error).");
        Light light = new Light();
        due.due("empty", light.askAll(), -100);
        due.due("at once", light.askAll("x"), -100);
        due.due("second", light.askAll("24,0+1x1=1"), -101);
        due.due("too early", light.askAll("0,0+4x4=9;1,1+2x2="), -118);
        due.due("too great", light.askAll("0,0+4x4=9;1,1+2x2=256"), -120);
        due.due("all of 60", light.askAll("0,0+1x1=9;".repeat(6)), -160);
        due.due("last of 60", light.askAll("0,0+1x1=9;".repeat(5) + "0,0+1x1=9-"), -159);
        due.due("no part is asked", light.spot(0, 0, 0), 0);
        due.due("an error is no act", light.count(11), 0);
        due.due("the text stays", light.count(12), 60);
    }

    private static void askAllIsAnAct(Due due) {
        due.promise(3, "This is an act.");
        Light light = new Light();
        light.askAll("0,0+4x4=9;4,4+2x2=8;9,9+1x1=7");
        due.due("one state for all parts", light.count(11), 1);
        light.askAll();
        due.due("one for no other spot", light.count(11), 2);
        light.undo();
        light.undo();
        due.due("undone", light.count(7), 0);
        due.due("the text is not undone", light.fault(), -5);
    }

    private static Light marked() {
        return Light.asking("0,0+1x1=10;23,11+1x1=20;5,6+1x1=30;6,6+1x1=31;5,7+1x1=32");
    }

    private static void movesByOne(Due due) {
        due.promise(4, "Moves the picture by one spot");
        int[] toX = {-1, 1, 0, 0};
        int[] toY = {0, 0, -1, 1};
        for (int way = 0; way < 4; way++) {
            Light before = Light.asking("0,0+24x12=1;2,2+9x4=2;20,0+4x6=3;5,6+1x1=4");
            Light light = Light.asking("0,0+24x12=1;2,2+9x4=2;20,0+4x6=3;5,6+1x1=4");
            light.move(way);
            for (int y = 1; y < 11; y++) {
                for (int x = 1; x < 23; x++) {
                    int want = before.spot(x, y, 0);
                    int got = light.spot(x + toX[way], y + toY[way], 0);
                    due.due("move(" + way + ") of " + x + ", " + y, got, want);
                }
            }
        }
        Light light = Light.asking("4,4+4x4=90");
        light.pass(1);
        light.move(0);
        due.due("levels stay", light.zone(7, 0), 128);
        due.due("frames stay", light.count(0), 1);
    }

    private static void blackComesIn(Due due) {
        due.promise(4, "what comes in is black.");
        int[] blackX = {23, 0, -1, -1};
        int[] blackY = {-1, -1, 11, 0};
        for (int way = 0; way < 4; way++) {
            Light light = Light.asking("0,0+24x12=7");
            light.move(way);
            for (int y = 0; y < 12; y++) {
                for (int x = 0; x < 24; x++) {
                    int want = x == blackX[way] || y == blackY[way] ? 0 : 7;
                    due.due("move(" + way + "): spot(" + x + ", " + y + ", 0)", light.spot(x, y, 0), want);
                }
            }
        }
        int[] back = {1, 0, 3, 2};
        for (int way = 0; way < 4; way++) {
            Light light = Light.asking("0,0+24x12=7");
            light.move(way);
            light.move(back[way]);
            // what went out does not come back: the other end is black then
            due.due("there and back", light.spot(0, 0, 0), way == 0 || way == 2 ? 0 : 7);
            due.due("there and back", light.spot(23, 11, 0), way == 0 || way == 2 ? 7 : 0);
        }
    }

    private static void moveWay(Due due) {
        due.promise(4, "- `way`: 0 to the left, 1 to the right, 2 up, 3 down");
        int[][] at = {{4, 6}, {6, 6}, {5, 5}, {5, 7}};
        for (int way = 0; way < 4; way++) {
            Light light = marked();
            light.move(way);
            due.due("move(" + way + ")", light.spot(at[way][0], at[way][1], 0), 30);
            due.due("the last one", light.spot(23, 11, 0), 0);
            due.due("the first one", light.spot(0, 0, 0), 0);
            due.due("no wrap-around", light.spot(23, 0, 0) + light.spot(0, 11, 0), 0);
            due.due("no wrap-around", light.spot(22, 0, 0) + light.spot(1, 11, 0), 0);
        }
    }

    private static void moveReturnsHowMany(Due due) {
        due.promise(4, "Returns for how many spots another brightness is asked then");
        due.due("black", new Light().move(0), 0);
        int[] ends = {12, 12, 24, 24};
        for (int way = 0; way < 4; way++) {
            Light full = Light.asking("0,0+24x12=7");
            due.due("full, move(" + way + ")", full.move(way), ends[way]);
            due.due("again", full.move(way), ends[way]);
            Light one = new Light();
            one.ask(5, 5, 9);
            due.due("one spot, move(" + way + ")", one.move(way), 2);
            Light two = Light.asking("5,5+2x2=9");
            due.due("two by two, move(" + way + ")", two.move(way), 4);
            Light corners = Light.asking("0,0+1x1=1;23,11+1x1=1");
            due.due("two corners, move(" + way + ")", corners.move(way), 3);
        }
        Light full = Light.asking("0,0+24x12=7");
        for (int i = 0; i < 11; i++) {
            full.move(2);
        }
        due.due("the last row goes out", full.move(2), 24);
        due.due("all is black", full.move(2), 0);
    }

    private static void moveBadValue(Due due) {
        due.promise(4, "BAD_VALUE.");
        Light light = marked();
        due.due("move(-1)", light.move(-1), -2);
        due.due("move(4)", light.move(4), -2);
        for (int way : Light.OUTSIDE) {
            due.due("move(" + way + ")", light.move(way), -2);
        }
        due.due("no act", light.count(11), 1);
        due.due("picture stays", light.spot(5, 6, 0), 30);
    }

    private static void moveIsAnAct(Due due) {
        due.promise(4, "This is an act.");
        Light light = new Light();
        light.move(3);
        due.due("also of a black picture", light.count(11), 1);
        light.ask(23, 11, 5);
        light.move(3);
        due.due("states", light.count(11), 3);
        due.due("gone", light.spot(23, 11, 0), 0);
        light.undo();
        due.due("undone", light.spot(23, 11, 0), 5);
    }
}
