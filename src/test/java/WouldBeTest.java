/** Promises 18 restsIn, 19 ifRule, 20 bestRule, 21 leastStep and 22 dearest. */
final class WouldBeTest {
    private static final int FAR = Integer.MAX_VALUE;
    private static final int DEEP = Integer.MIN_VALUE;

    public static void main(String[] args) {
        Due due = new Due();
        restsIn(due);
        gapOfEachZone(due);
        leastStep(due);
        ifRule(due);
        ifRuleWithDead(due);
        bestRule(due);
        dearest(due);
        dearestOfFew(due);
        dearestOfNone(due);
        due.close("WouldBeTest");
    }

    /** Light of the own zone alone, so that a level is the light, and no rounds. */
    private static ZonedLight alone(String text) {
        ZonedLight light = Due.asking(text);
        light.set(0, 256);
        light.set(1, 0);
        light.set(2, 0);
        light.set(4, 0);
        return light;
    }

    private static void restsIn(Due due) {
        ZonedLight light = Due.asking("4,4+4x4=90;20,0+4x4=45");
        due.due("128 by 255", light.restsIn(), 1);
        int[] steps = {128, 127, 64, 63, 50, 1};
        int[] frames = {1, 2, 2, 3, 3, 128};
        for (int i = 0; i < steps.length; i++) {
            light.set(7, steps[i]);
            due.due("128 by " + steps[i], light.restsIn(), frames[i]);
        }
        light.pass(99);
        due.due("29 by 1", light.restsIn(), 29);
        light.pass(28);
        due.due("1 by 1", light.restsIn(), 1);
        due.due("rests not", light.count(10), 0);
        light.pass(1);
        due.due("rests", light.restsIn(), 0);
        due.due("rests", light.count(10), 1);
        light.kill(7, true);
        light.set(1, 0);
        due.due("a dead one rests", light.restsIn(), 0);
        Due.write(light, "0,0+24x12=0");
        light.askAll();
        due.due("64 down by 1", light.restsIn(), 64);
    }

    private static void gapOfEachZone(Due due) {
        for (int zone = 0; zone < 18; zone++) {
            ZonedLight light = alone("0,0+1x1=0");
            light.ask(zone % 6 * 4, zone / 6 * 4, 77);
            light.set(7, 10);
            due.due("77 by 10 in zone " + zone, light.restsIn(), 8);
            due.due("rests not", light.count(10), 0);
            due.due("77 in 10", light.leastStep(10), 8);
        }
    }

    private static void leastStep(Due due) {
        ZonedLight light = Due.asking("4,4+4x4=90;20,0+4x4=45");
        int[] frames = {1, 2, 3, 4, 5, 127, 128, 129, 255};
        int[] steps = {128, 64, 43, 32, 26, 2, 1, 1, 1};
        for (int i = 0; i < frames.length; i++) {
            due.due("leastStep(" + frames[i] + ")", light.leastStep(frames[i]), steps[i]);
        }
        light.set(7, 1);
        due.due("with another step", light.leastStep(3), 43);
        due.due("the step stays", light.count(20), 1);
        for (int wrong : new int[] {0, -1, 256, FAR, DEEP}) {
            due.due("leastStep(" + wrong + ")", light.leastStep(wrong), -2);
        }
        light.set(7, 255);
        light.pass(1);
        due.due("rests", light.leastStep(1), 0);
        due.due("rests", light.leastStep(255), 0);
        due.due("wrong at rest", light.leastStep(0), -2);
        due.due("wrong at rest", light.leastStep(256), -2);
        ZonedLight full = alone("0,0+24x12=255");
        due.due("255 in one", full.leastStep(1), 255);
        due.due("255 in two", full.leastStep(2), 128);
    }

    private static void rules(Due due, ZonedLight light, int[][] want) {
        for (int rule = 0; rule < 3; rule++) {
            for (int what = 0; what < 4; what++) {
                String call = "ifRule(" + rule + ", " + what + ")";
                due.due(call, light.ifRule(rule, what), want[rule][what]);
            }
        }
    }

    private static void ifRule(Due due) {
        ZonedLight light = alone("4,4+1x1=160");
        int[][] want = {{160, 0, 0, 0}, {85, 75, 1, 0}, {10, 150, 1, 0}};
        rules(due, light, want);
        light.set(3, 2);
        rules(due, light, want);
        light.pass(1);
        rules(due, light, want);
        light.set(5, 50);
        light.set(6, 20);
        rules(due, light, new int[][] {{160, 120, 0, 15}, {85, 135, 1, 15}, {10, 150, 1, 0}});
        due.due("the rule stays", light.count(16), 2);
        due.due("the level stays", light.zone(7, 0), 10);
        for (int wrong : new int[] {-1, 3, FAR, DEEP}) {
            due.due("ifRule(" + wrong + ", 0)", light.ifRule(wrong, 0), -2);
        }
        for (int wrong : new int[] {-1, 4, FAR, DEEP}) {
            due.due("ifRule(0, " + wrong + ")", light.ifRule(0, wrong), -2);
        }
    }

    private static void ifRuleWithDead(Due due) {
        ZonedLight light = alone("4,4+1x1=160;0,0+1x1=100");
        light.kill(7, true);
        rules(due, light, new int[][] {{100, 160, 1, 0}, {53, 207, 2, 0}, {6, 254, 2, 0}});
    }

    private static void bestRule(Due due) {
        ZonedLight light = alone("4,4+1x1=160");
        due.due("peaks", light.bestRule(), 0);
        light.set(3, 2);
        due.due("whatever is set", light.bestRule(), 0);
        due.due("the rule stays", light.count(16), 2);
        ZonedLight leaks = alone("4,4+1x1=20");
        leaks.set(5, 50);
        due.due("peaks and means", leaks.bestRule(), 1);
        rules(due, leaks, new int[][] {{20, 15, 0, 15}, {10, 10, 1, 0}, {1, 19, 1, 0}});
        due.due("peaks and means", leaks.bestRule(), 1);
        // a light of 20 leaks, of 19 not: here the leak puts fewer off than the lack would
        ZonedLight mean = alone("4,4+4x4=19;4,4+1x1=20;4,5+1x2=0;4,7+1x1=20");
        mean.set(5, 50);
        rules(due, mean, new int[][] {{20, 2, 0, 2}, {18, 16, 14, 0}, {16, 44, 14, 0}});
        due.due("peaks", mean.bestRule(), 0);
        due.due("all alike: the lowest", alone("4,4+4x4=20").bestRule(), 0);
        leastPower(due);
    }

    private static void leastPower(Due due) {
        // the rounds raise zones 0 and 7 to 255 by any rule, zone 17 by more if it starts at the peak
        ZonedLight light = new ZonedLight();
        light.ask(0, 0, 200);
        light.ask(3, 3, 40);
        light.ask(4, 4, 255);
        int off = light.ifRule(0, 1);
        due.due("as far off", light.ifRule(1, 1), off);
        due.due("as far off", light.ifRule(2, 1), off);
        due.due("power 0", light.ifRule(0, 0), 510);
        due.due("power 1", light.ifRule(1, 0), 510);
        due.due("power 2", light.ifRule(2, 0), 510);
        due.due("all alike: the lowest", light.bestRule(), 0);
        light.ask(23, 11, 7);
        due.due("as far off", light.ifRule(2, 1), light.ifRule(0, 1));
        due.due("more power", light.ifRule(0, 0), 521);
        due.due("more power", light.ifRule(1, 0) > light.ifRule(2, 0) ? 1 : 0, 1);
        due.due("the least power", light.bestRule(), 2);
    }

    private static void dearest(Due due) {
        ZonedLight light = alone("0,0+4x4=100;20,8+4x4=120");
        due.due("zone", light.dearest(0), 17);
        due.due("off", light.dearest(1), 1920);
        Due.write(light, "20,8+4x4=100");
        light.askAll();
        due.due("of two the lowest", light.dearest(0), 0);
        due.due("off", light.dearest(1), 1600);
        for (int wrong : new int[] {-1, 2, FAR, DEEP}) {
            due.due("dearest(" + wrong + ")", light.dearest(wrong), -2);
        }
        due.due("nobody died", light.count(9), 0);
        due.due("no act", light.dearest(0) == 0 ? light.count(11) : -1, 4);
        light.kill(0, true);
        due.due("zone", light.dearest(0), 17);
        due.due("with what is off by then", light.dearest(1), 3200);
    }

    private static void dearestOfFew(Due due) {
        ZonedLight light = alone("0,0+4x4=100");
        due.due("black: the lowest", new ZonedLight().dearest(0), 0);
        due.due("black: off by nothing", new ZonedLight().dearest(1), 0);
        for (int zone = 0; zone < 18; zone++) {
            if (zone != 5) {
                light.kill(zone, true);
            }
        }
        due.due("the last one", light.dearest(0), 5);
        due.due("off", light.dearest(1), 1600);
    }

    private static void dearestOfNone(Due due) {
        ZonedLight light = new ZonedLight();
        for (int zone = 0; zone < 18; zone++) {
            light.kill(zone, true);
        }
        due.due("none", light.dearest(0), -5);
        due.due("none", light.dearest(1), -5);
        due.due("wrong", light.dearest(2), -2);
        due.due("wrong", light.dearest(-1), -2);
        due.due("rule power", light.ifRule(0, 0), 0);
        due.due("best rule", light.bestRule(), 0);
        due.due("rests", light.restsIn(), 0);
    }
}
