/** Promises 2 ask, 3 askAll and 4 move. */
final class PictureTest {
    private static final int FAR = Integer.MAX_VALUE;
    private static final int DEEP = Integer.MIN_VALUE;

    public static void main(String[] args) {
        Due due = new Due();
        ask(due);
        askWrong(due);
        askAll(due);
        askAllPartByPart(due);
        askAllOffScreen(due);
        askAllFaults(due);
        moveEachWay(due);
        moveBlackAndFull(due);
        due.close("PictureTest");
    }

    private static void ask(Due due) {
        ZonedLight light = new ZonedLight();
        due.due("ask first", light.ask(0, 0, 255), 0);
        due.due("ask again", light.ask(0, 0, 255), -5);
        due.due("ask other", light.ask(0, 0, 3), 255);
        due.due("ask black", light.ask(0, 0, 0), 3);
        due.due("ask black again", light.ask(0, 0, 0), -5);
        due.due("ask corner", light.ask(23, 11, 1), 0);
        due.due("ask corner", light.ask(23, 0, 2), 0);
        due.due("ask corner", light.ask(0, 11, 4), 0);
        due.due("spot corner", light.spot(23, 11, 0), 1);
        due.due("spot corner", light.spot(23, 0, 0), 2);
        due.due("spot corner", light.spot(0, 11, 0), 4);
        due.due("spot", light.spot(0, 0, 0), 0);
        due.due("spot beside", light.spot(22, 11, 0), 0);
        due.due("history", light.count(11), 4);
        due.due("levels stay", light.count(1), 0);
        due.due("frames stay", light.count(0), 0);
    }

    private static void askWrong(Due due) {
        ZonedLight light = new ZonedLight();
        int[] wrongX = {-1, 24, FAR, DEEP};
        int[] wrongY = {-1, 12, FAR, DEEP};
        int[] wrongBright = {-1, 256, FAR, DEEP};
        for (int i = 0; i < 4; i++) {
            due.due("ask x", light.ask(wrongX[i], 0, 1), -1);
            due.due("ask y", light.ask(0, wrongY[i], 1), -1);
            due.due("ask both", light.ask(wrongX[i], 0, wrongBright[i]), -1);
            due.due("ask bright", light.ask(0, 0, wrongBright[i]), -2);
        }
        due.due("history", light.count(11), 0);
        due.due("off", light.count(7), 0);
    }

    private static void askAll(Due due) {
        ZonedLight light = new ZonedLight();
        Due.write(light, "2,1+3x2=77");
        due.due("askAll", light.askAll(), 6);
        due.due("inside", light.spot(2, 1, 0), 77);
        due.due("inside", light.spot(4, 2, 0), 77);
        due.due("outside", light.spot(1, 1, 0), 0);
        due.due("outside", light.spot(5, 2, 0), 0);
        due.due("outside", light.spot(2, 0, 0), 0);
        due.due("outside", light.spot(2, 3, 0), 0);
        due.due("text stays", light.count(12), 10);
        due.due("askAll again", light.askAll(), 0);
        due.due("it is an act", light.count(11), 2);
        light.ask(3, 1, 0);
        light.ask(4, 1, 78);
        due.due("askAll two", light.askAll(), 2);
        due.due("history", light.count(11), 4);
        due.due("undo", light.undo(), 3);
        due.due("as before", light.spot(4, 1, 0), 78);
        Due.write(light, "0,0+24x12=255");
        due.due("askAll whole", light.askAll(), 288);
        due.due("corner", light.spot(23, 11, 0), 255);
    }

    private static void askAllPartByPart(Due due) {
        ZonedLight light = new ZonedLight();
        Due.write(light, "0,0+4x4=9;1,1+2x2=0;2,2+1x1=9");
        due.due("later parts win", light.askAll(), 13);
        due.due("first", light.spot(0, 0, 0), 9);
        due.due("second", light.spot(1, 1, 0), 0);
        due.due("third", light.spot(2, 2, 0), 9);
        ZonedLight six = new ZonedLight();
        Due.write(six, "0,0+1x1=1;2,0+1x1=2;4,0+1x1=3;6,0+1x1=4;8,0+1x1=5;9,0+1x1=6");
        due.due("six parts", six.askAll(), 6);
        due.due("the sixth", six.spot(9, 0, 0), 6);
        ZonedLight same = new ZonedLight();
        Due.write(same, "5,5+3x3=8;5,5+3x3=0");
        due.due("there and back", same.askAll(), 0);
        due.due("still an act", same.count(11), 1);
    }

    private static void askAllOffScreen(Due due) {
        ZonedLight light = new ZonedLight();
        Due.write(light, "23,11+24x12=40");
        due.due("one on the screen", light.askAll(), 1);
        due.due("it", light.spot(23, 11, 0), 40);
        due.due("no wrap", light.spot(0, 11, 0), 0);
        Due.write(light, "22,0+9x1=5");
        due.due("two on the screen", light.askAll(), 2);
        due.due("no wrap", light.spot(0, 1, 0), 0);
        Due.write(light, "0,10+1x12=6");
        due.due("two on the screen", light.askAll(), 2);
    }

    private static void askAllFaults(Due due) {
        ZonedLight light = new ZonedLight();
        due.due("empty", light.askAll(), -100);
        Due.write(light, "0,0+4x4=9;1,1+2x2=");
        due.due("too early", light.askAll(), -118);
        due.due("no part is asked", light.count(7), 0);
        Due.write(light, "0,0+4x4=9;1,1+2x2=256");
        due.due("too great", light.askAll(), -120);
        Due.write(light, "0,0+4x4=9;24");
        due.due("too great", light.askAll(), -111);
        due.due("an error is no act", light.count(11), 0);
        due.due("no part is asked", light.spot(0, 0, 0), 0);
    }

    private static ZonedLight marked() {
        ZonedLight light = new ZonedLight();
        light.ask(0, 0, 10);
        light.ask(23, 11, 20);
        light.ask(5, 6, 30);
        return light;
    }

    private static void moveEachWay(Due due) {
        int[][] at = {{4, 6}, {6, 6}, {5, 5}, {5, 7}};
        int[][] first = {{-1, 0}, {1, 0}, {0, -1}, {0, 1}};
        int[][] last = {{22, 11}, {24, 11}, {23, 10}, {23, 12}};
        // 5,6 leaves one spot and takes another; one corner goes, the other one moves
        for (int way = 0; way < 4; way++) {
            ZonedLight light = marked();
            due.due("move(" + way + ")", light.move(way), 5);
            due.due("moved", light.spot(at[way][0], at[way][1], 0), 30);
            due.due("left", light.spot(5, 6, 0), 0);
            due.due("first", light.spot(first[way][0], first[way][1], 0), way % 2 == 0 ? -1 : 10);
            due.due("last", light.spot(last[way][0], last[way][1], 0), way % 2 == 0 ? 20 : -1);
            due.due("first left", light.spot(0, 0, 0), 0);
            due.due("last left", light.spot(23, 11, 0), 0);
            due.due("no wrap", light.spot(23, 0, 0) + light.spot(0, 11, 0), 0);
            due.due("no wrap", light.spot(22, 0, 0) + light.spot(1, 11, 0), 0);
            due.due("history", light.count(11), 4);
        }
        ZonedLight light = marked();
        for (int way : new int[] {-1, 4, FAR, DEEP}) {
            due.due("move(" + way + ")", light.move(way), -2);
        }
        due.due("no act", light.count(11), 3);
        due.due("picture stays", light.spot(5, 6, 0), 30);
    }

    private static void moveBlackAndFull(Due due) {
        ZonedLight light = new ZonedLight();
        due.due("black", light.move(0), 0);
        due.due("it is an act", light.count(11), 1);
        ZonedLight full = Due.asking("0,0+24x12=7");
        due.due("full to the left", full.move(0), 12);
        due.due("black came in", full.spot(23, 5, 0), 0);
        due.due("full up", full.move(2), 23);
        due.due("black came in", full.spot(0, 11, 0), 0);
        due.due("right", full.move(1), 22);
        due.due("down", full.move(3), 46);
        due.due("levels stay", full.count(1), 0);
        due.due("frames stay", full.count(0), 0);
    }
}
