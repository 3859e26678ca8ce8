/** The terms FRAMES. */
final class FramesTest {
    public static void main(String[] args) {
        Due due = new Due();
        byStepAtMost(due);
        downByStepAtMost(due);
        eachZoneByItself(due);
        notDeadAlone(due);
        framesCounted(due);
        allRests(due);
        powerOfFrame(due);
        flicker(due);
        noFlickerButInFrames(due);
        due.close("FramesTest");
    }

    private static void levels(Due due, Light light, int zone, int... want) {
        for (int i = 0; i < want.length; i++) {
            light.pass(1);
            due.due("level of " + zone + " in frame " + (i + 1), light.zone(zone, 0), want[i]);
        }
    }

    private static void byStepAtMost(Due due) {
        due.terms(6, "moves towards the wanted one, by the step at most.");
        int[] steps = {99, 100, 101, 255, 50, 49, 1};
        int[][] want = {{99, 100, 100}, {100, 100}, {100, 100}, {100, 100}, {50, 100, 100},
                {49, 98, 100, 100}, {1, 2, 3}};
        for (int i = 0; i < steps.length; i++) {
            Light light = Light.alone("4,4+4x4=100");
            light.set(7, steps[i]);
            levels(due, light, 7, want[i]);
        }
    }

    private static void downByStepAtMost(Due due) {
        due.terms(6, "moves towards the wanted one, by the step at most.");
        int[] steps = {59, 60, 61, 255, 30, 29, 1};
        int[][] want = {{41, 40, 40}, {40, 40}, {40, 40}, {40, 40}, {70, 40, 40},
                {71, 42, 40, 40}, {99, 98, 97}};
        for (int i = 0; i < steps.length; i++) {
            Light light = Light.alone("4,4+4x4=100");
            light.pass(1);
            light.askAll("4,4+4x4=40");
            light.set(7, steps[i]);
            levels(due, light, 7, want[i]);
        }
        Light black = Light.alone("4,4+4x4=3");
        black.pass(1);
        black.askAll("4,4+4x4=0");
        black.set(7, 2);
        levels(due, black, 7, 1, 0, 0);
    }

    private static void eachZoneByItself(Due due) {
        due.terms(6, "In a frame the level of each zone that is not dead moves");
        Light light = Light.alone("0,0+24x12=100");
        light.pass(1);
        light.set(7, 30);
        light.askAll("0,0+4x4=200;4,0+4x4=110;8,0+4x4=90;12,0+4x4=0;20,8+4x4=130");
        due.due("power", light.pass(1), 1800 + 30 + 10 - 10 - 30 + 30);
        int[] row = {130, 110, 90, 70, 100, 100};
        for (int zone = 0; zone < 6; zone++) {
            due.due("level of " + zone, light.zone(zone, 0), row[zone]);
        }
        due.due("level of 17", light.zone(17, 0), 130);
    }

    private static void notDeadAlone(Due due) {
        due.terms(6, "the level of each zone that is not dead");
        Light light = Light.alone("4,4+4x4=100;8,4+4x4=50");
        light.kill(7, true);
        due.due("power", light.pass(1), 50);
        due.due("level of the dead", light.zone(7, 0), 0);
        due.due("flicker", light.count(2), 50);
        light.kill(7, false);
        due.due("power when it lives again", light.pass(1), 150);
        due.due("flicker", light.count(2), 150);
    }

    private static void framesCounted(Due due) {
        due.terms(16, "The frames are counted (0 at first).");
        Light light = new Light();
        due.due("count(0) at first", light.count(0), 0);
        light.pass(1);
        due.due("count(0)", light.count(0), 1);
        light.pass(99);
        due.due("count(0)", light.count(0), 100);
        light.pass(0);
        light.pass(100);
        due.due("count(0) after wrong calls", light.count(0), 100);
        light.ask(0, 0, 9);
        light.set(7, 4);
        light.kill(3, true);
        light.move(0);
        light.keep();
        due.due("count(0) after other acts", light.count(0), 100);
    }

    private static void allRests(Due due) {
        due.terms(16, "All rests if all levels are the wanted ones.");
        for (int zone = 0; zone < 18; zone++) {
            Light light = Light.alone("0,0+24x12=100");
            light.pass(1);
            due.due("all rests", light.count(10), 1);
            light.askAll(zone % 6 * 4 + "," + zone / 6 * 4 + "+4x4=101");
            due.due("1 too low", light.count(10), 0);
            light.pass(1);
            due.due("all rests", light.count(10), 1);
            light.undo();
            light.askAll(zone % 6 * 4 + "," + zone / 6 * 4 + "+4x4=99");
            due.due("1 too high", light.count(10), 0);
            light.kill(zone, true);
            due.due("dead", light.count(10), 1);
            light.kill(zone, false);
            due.due("lives again", light.count(10), 0);
        }
        due.due("a new one", new Light().count(10), 1);
    }

    private static void powerOfFrame(Due due) {
        due.terms(6, "The power of a frame is the sum of all levels behind it.");
        Light light = Light.alone("0,0+4x4=100;20,8+4x4=60");
        light.set(7, 40);
        due.due("frame 1", light.pass(1), 80);
        due.due("frame 2", light.pass(1), 140);
        due.due("frame 3", light.pass(1), 160);
        due.due("frame 4", light.pass(1), 160);
        due.due("all together", light.count(3), 80 + 140 + 160 + 160);
        light.kill(0, true);
        due.due("no frame yet", light.count(3), 540);
        due.due("frame 5", light.pass(1), 60);
        due.due("all together", light.count(3), 600);
    }

    private static void flicker(Due due) {
        due.terms(16, "The flicker is the sum of the changes of levels in all frames so far.");
        Light light = Light.alone("0,0+4x4=100;20,8+4x4=60");
        light.set(7, 40);
        due.due("at first", light.count(2), 0);
        light.pass(1);
        due.due("two up", light.count(2), 80);
        light.pass(2);
        due.due("till they rest", light.count(2), 160);
        light.pass(9);
        due.due("at rest", light.count(2), 160);
        light.askAll("0,0+4x4=95;20,8+4x4=160");
        light.pass(1);
        due.due("one down, one up", light.count(2), 160 + 5 + 40);
        light.askAll("0,0+24x12=0");
        light.pass(99);
        due.due("both down", light.count(2), 205 + 95 + 100);
    }

    private static void noFlickerButInFrames(Due due) {
        due.terms(16, "changes of levels in all frames so far");
        Light light = Light.alone("0,0+4x4=100");
        light.pass(1);
        light.kill(0, true);
        due.due("a death is in no frame", light.count(2), 100);
        light.pass(1);
        due.due("the dead one moves not", light.count(2), 100);
        light.kill(0, false);
        light.pass(1);
        due.due("up again", light.count(2), 200);
        light.undo();
        due.due("as it was", light.count(2), 100);
    }
}
