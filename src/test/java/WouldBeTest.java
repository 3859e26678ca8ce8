/** Promises 18 restsIn, 19 ifRule, 20 bestRule, 21 leastStep and 22 dearest. */
final class WouldBeTest {
    private static final String DRAWING = "2,1+9x7=140;8,4+4x4=0;9,5+1x1=255;14,2+6x9=60;15,3+1x1=230";

    public static void main(String[] args) {
        Due due = new Due();
        restsInFrames(due);
        restsInIfNothingElse(due);
        restsNow(due);
        ifRuleWhenAllRests(due);
        ifRuleRule(due);
        ifRuleWhat(due);
        ifRuleBadValue(due);
        leastOff(due);
        leastPower(due);
        lowestRule(due);
        bestRuleReturns(due);
        leastStepWithin(due);
        leastStepFrames(due);
        leastStepReturns(due);
        leastStepBadValue(due);
        leastStepAtRest(due);
        dearestWhenAllRests(due);
        dearestLowest(due);
        dearestNotDead(due);
        dearestWhat(due);
        dearestBadValue(due);
        dearestNone(due);
        due.close("WouldBeTest");
    }

    private static Light drawing() {
        return Light.asking(DRAWING).with(150, 20, 4, 0, 2, 30, 2);
    }

    private static void restsInFrames(Due due) {
        due.promise(18, "Tells in how many frames all rests");
        Light light = Light.asking("4,4+4x4=90;20,0+4x4=45");
        int[] steps = {255, 129, 128, 127, 65, 64, 63, 50, 2, 1};
        int[] frames = {1, 1, 1, 2, 2, 2, 3, 3, 64, 128};
        for (int i = 0; i < steps.length; i++) {
            light.set(7, steps[i]);
            due.due("128 by " + steps[i], light.restsIn(), frames[i]);
        }
        for (int zone = 0; zone < 18; zone++) {
            Light one = Light.alone("0,0+1x1=0");
            one.ask(zone % 6 * 4, zone / 6 * 4, 77);
            one.set(7, 10);
            due.due("77 by 10 in zone " + zone, one.restsIn(), 8);
        }
        Light most = Light.alone("0,0+4x4=255");
        most.set(7, 1);
        due.due("255 by 1", most.restsIn(), 255);
        most.set(7, 2);
        due.due("255 by 2", most.restsIn(), 128);
    }

    private static void restsInIfNothingElse(Due due) {
        due.promise(18, "if nothing else is done.");
        Light light = drawing();
        light.pass(1);
        light.set(7, 13);
        light.move(1);
        light.kill(3, true);
        int frames = light.restsIn();
        due.check("it takes some frames", frames > 1);
        light.pass(frames - 1);
        due.due("one frame earlier", light.count(10), 0);
        due.due("restsIn()", light.restsIn(), 1);
        light.pass(1);
        due.due("then", light.count(10), 1);
    }

    private static void restsNow(Due due) {
        due.promise(18, "Returns how many, 0 if it does now.");
        due.due("a new one", new Light().restsIn(), 0);
        Light light = Light.alone("4,4+4x4=90");
        light.pass(1);
        due.due("at rest", light.restsIn(), 0);
        light.set(7, 1);
        light.ask(4, 4, 91);
        due.due("1 too low", light.restsIn(), 1);
        light.askAll("4,4+4x4=89");
        due.due("1 too high", light.restsIn(), 1);
        light.kill(7, true);
        due.due("dead, and nobody can help", light.restsIn(), 0);
        light.kill(7, false);
        due.due("lives again", light.restsIn(), 89);
        light.askAll("0,0+24x12=0");
        due.due("nothing is asked", light.restsIn(), 0);
    }

    private static void rules(Due due, Light light, int[]... want) {
        for (int rule = 0; rule < 3; rule++) {
            for (int what = 0; what < 4; what++) {
                due.due("ifRule(" + rule + ", " + what + ")", light.ifRule(rule, what), want[rule][what]);
            }
        }
    }

    private static void ifRuleWhenAllRests(Due due) {
        due.promise(19, "Tells what would be when all rests, with another rule.");
        for (int rule = 0; rule < 3; rule++) {
            for (int what = 0; what < 4; what++) {
                Light light = drawing();
                light.set(7, 5);
                light.kill(8, true);
                light.pass(3);
                int told = light.ifRule(rule, what);
                due.due("the rule stays", light.count(16), 0);
                due.due("the frames stay", light.count(0), 3);
                light.set(3, rule);
                light.pass(99);
                due.due("all rests", light.count(10), 1);
                int[] counts = {1, 7, 5, 6};
                due.due("ifRule(" + rule + ", " + what + ")", told, light.count(counts[what]));
            }
        }
    }

    private static void ifRuleRule(Due due) {
        due.promise(19, "- `rule`: 0 to 2");
        Light light = Light.alone("4,4+1x1=160");
        int[][] want = {{160, 0, 0, 0}, {85, 75, 1, 0}, {10, 150, 1, 0}};
        rules(due, light, want);
        light.set(3, 2);
        rules(due, light, want);
        light.pass(1);
        rules(due, light, want);
        due.due("ifRule(-1, 0)", light.ifRule(-1, 0), -2);
        due.due("ifRule(3, 0)", light.ifRule(3, 0), -2);
        for (int rule : Light.OUTSIDE) {
            due.due("ifRule(" + rule + ", 0)", light.ifRule(rule, 0), -2);
        }
        due.due("the rule stays", light.count(16), 2);
        due.due("the level stays", light.zone(7, 0), 10);
    }

    private static void ifRuleWhat(Due due) {
        due.promise(19, "- `what`: 0 for the power, 1 for by how much spots are off, all together");
        Light light = Light.alone("4,4+1x1=160");
        light.set(5, 50);
        light.set(6, 20);
        rules(due, light, new int[][] {{160, 120, 0, 15}, {85, 135, 1, 15}, {10, 150, 1, 0}});
        due.due("ifRule(0, -1)", light.ifRule(0, -1), -2);
        due.due("ifRule(0, 4)", light.ifRule(0, 4), -2);
        for (int what : Light.OUTSIDE) {
            due.due("ifRule(0, " + what + ")", light.ifRule(0, what), -2);
        }
        Light dead = Light.alone("4,4+1x1=160;0,0+1x1=100");
        dead.kill(7, true);
        rules(due, dead, new int[][] {{100, 160, 1, 0}, {53, 207, 2, 0}, {6, 254, 2, 0}});
        rules(due, new Light(), new int[][] {{0, 0, 0, 0}, {0, 0, 0, 0}, {0, 0, 0, 0}});
        Light most = Light.asking("0,0+24x12=255").with(256);
        rules(due, most, new int[][] {{4590, 0, 0, 0}, {4590, 0, 0, 0}, {4590, 0, 0, 0}});
    }

    private static void ifRuleBadValue(Due due) {
        due.promise(19, "Returns the number; BAD_VALUE.");
        Light light = Light.alone("4,4+1x1=160");
        due.due("ifRule(2, 3)", light.ifRule(2, 3), 0);
        due.due("ifRule(3, 3)", light.ifRule(3, 3), -2);
        due.due("ifRule(2, 4)", light.ifRule(2, 4), -2);
        due.due("ifRule(-1, 4)", light.ifRule(-1, 4), -2);
        due.due("no act", light.count(11), 4);
    }

    private static void best(Due due, Light light, int[] off, int[] power, int want) {
        due.due("bestRule() as the first question", light.bestRule(), want);
        for (int rule = 0; rule < 3; rule++) {
            due.due("off by rule " + rule, light.ifRule(rule, 1), off[rule]);
            due.due("power by rule " + rule, light.ifRule(rule, 0), power[rule]);
        }
        for (int rule = 0; rule < 3; rule++) {
            light.set(3, rule);
            due.due("bestRule() when " + rule + " is set", light.bestRule(), want);
        }
    }

    private static void leastOff(Due due) {
        due.promise(20, "Finds the rule with which, when all rests, spots are off the least, all together");
        Light peaks = Light.alone("8,4+1x1=7");
        best(due, peaks, new int[] {0, 4, 7}, new int[] {7, 3, 0}, 0);
        // by its peak the zone's black spots leak 1 each
        Light both = Light.alone("0,0+1x1=20");
        both.set(5, 50);
        best(due, both, new int[] {15, 10, 19}, new int[] {20, 10, 1}, 1);
        Light wide = Light.asking("0,4+1x1=200").with(256, 30, 9, 0, 0, 50, 20);
        best(due, wide, new int[] {230, 169, 188}, new int[] {200, 106, 12}, 1);
        // spots that ask for 1 leak 4, 3 and 2 here
        Light means = Light.asking("0,0+24x12=50;0,4+3x3=1").with(256, 30, 9, 0, 0, 50, 20);
        best(due, means, new int[] {27, 18, 9}, new int[] {900, 886, 872}, 2);
    }

    private static void leastPower(Due due) {
        due.promise(20, "of several that with the least power");
        // the rounds raise zones 0 and 7 to 255 by any rule, and zone 17 to as much as it needs
        Light three = Light.asking("0,0+1x1=200;3,3+1x1=40;4,4+1x1=255;23,11+1x1=7");
        best(due, three, new int[] {79, 79, 79}, new int[] {521, 522, 520}, 2);
        best(due, Light.asking("8,4+4x2=10"), new int[3], new int[] {16, 15, 16}, 1);
        best(due, Light.asking("4,4+4x3=7;0,8+1x1=1"), new int[3], new int[] {12, 13, 14}, 0);
        Light two = Light.asking("0,0+24x12=30;0,0+3x3=1").with(256, 30, 0, 0, 1, 50, 3);
        best(due, two, new int[] {9, 0, 0}, new int[] {540, 531, 530}, 2);
        Light first = Light.asking("4,4+2x3=20;4,0+4x3=10;8,4+2x1=100").with(256, 30, 0, 0, 1, 50, 3);
        best(due, first, new int[] {98, 94, 94}, new int[] {106, 98, 102}, 1);
    }

    private static void lowestRule(Due due) {
        due.promise(20, "of several the lowest.");
        best(due, new Light(), new int[3], new int[3], 0);
        best(due, Light.alone("4,4+4x4=20"), new int[3], new int[] {20, 20, 20}, 0);
        Light ends = Light.asking("8,4+2x1=255;12,0+4x2=40");
        best(due, ends, new int[] {148, 150, 148}, new int[] {311, 303, 311}, 0);
        Light last = Light.asking("0,0+24x12=50;0,8+4x3=1").with(256, 30, 0, 0, 1, 50, 3);
        best(due, last, new int[] {24, 12, 12}, new int[] {900, 883, 883}, 1);
        Light lost = Light.alone("0,8+4x1=100");
        lost.set(5, 50);
        best(due, lost, new int[] {188, 188, 312}, new int[] {59, 59, 25}, 0);
    }

    private static void bestRuleReturns(Due due) {
        due.promise(20, "Returns the rule.");
        Light light = drawing();
        light.set(3, 1);
        light.set(7, 3);
        light.pass(2);
        int before = light.count(7);
        int rule = light.bestRule();
        due.check("it is a rule", rule >= 0 && rule <= 2);
        due.due("the rule stays", light.count(16), 1);
        due.due("the levels stay", light.count(7), before);
        due.due("no act", light.count(11), 4);
    }

    private static void leastStepWithin(Due due) {
        due.promise(21, "Finds the least step with which all rests within some frames.");
        Light light = Light.asking("4,4+4x4=90;20,0+4x4=45");
        int[] frames = {1, 2, 3, 4, 5, 42, 43, 63, 64, 127, 128, 129, 255};
        int[] steps = {128, 64, 43, 32, 26, 4, 3, 3, 2, 2, 1, 1, 1};
        for (int i = 0; i < frames.length; i++) {
            due.due("leastStep(" + frames[i] + ")", light.leastStep(frames[i]), steps[i]);
        }
        light.set(7, 1);
        due.due("whatever the step is", light.leastStep(3), 43);
        for (int some = 1; some <= 99; some += 7) {
            Light other = Light.asking("4,4+4x4=90;20,0+4x4=45");
            int step = other.leastStep(some);
            other.set(7, step);
            other.pass(some);
            due.due("rests by " + step, other.count(10), 1);
            other.undo();
            other.set(7, step - 1);
            other.pass(some);
            due.due("rests not by " + (step - 1), other.count(10), step == 1 ? 1 : 0);
        }
    }

    private static void leastStepFrames(Due due) {
        due.promise(21, "- `frames`: 1 to 255");
        Light light = Light.asking("4,4+4x4=90");
        due.due("leastStep(1)", light.leastStep(1), 128);
        due.due("leastStep(255)", light.leastStep(255), 1);
        due.due("leastStep(0)", light.leastStep(0), -2);
        due.due("leastStep(-1)", light.leastStep(-1), -2);
        due.due("leastStep(256)", light.leastStep(256), -2);
        for (int frames : Light.OUTSIDE) {
            due.due("leastStep(" + frames + ")", light.leastStep(frames), -2);
        }
    }

    private static void leastStepReturns(Due due) {
        due.promise(21, "Returns the setting 7, 1 to 255");
        Light most = Light.alone("0,0+24x12=255");
        due.due("255 in 1", most.leastStep(1), 255);
        due.due("255 in 2", most.leastStep(2), 128);
        due.due("255 in 254", most.leastStep(254), 2);
        due.due("255 in 255", most.leastStep(255), 1);
        Light least = Light.alone("0,0+4x4=1");
        due.due("1 in 1", least.leastStep(1), 1);
        due.due("1 in 255", least.leastStep(255), 1);
        most.pass(1);
        most.askAll("0,0+24x12=0");
        due.due("down by 255 in 1", most.leastStep(1), 255);
        due.due("the step stays", most.count(20), 255);
        due.due("no act", most.count(11), 4);
    }

    private static void leastStepBadValue(Due due) {
        due.promise(21, "BAD_VALUE");
        Light light = Light.asking("4,4+4x4=90");
        due.due("leastStep(0)", light.leastStep(0), -2);
        due.due("leastStep(256)", light.leastStep(256), -2);
        light.pass(1);
        due.due("leastStep(0) at rest", light.leastStep(0), -2);
        due.due("leastStep(256) at rest", light.leastStep(256), -2);
    }

    private static void leastStepAtRest(Due due) {
        due.promise(21, "0 if all rests already.");
        due.due("a new one", new Light().leastStep(1), 0);
        Light light = Light.asking("4,4+4x4=90");
        light.pass(1);
        due.due("leastStep(1)", light.leastStep(1), 0);
        due.due("leastStep(255)", light.leastStep(255), 0);
        light.kill(7, true);
        light.set(1, 0);
        due.due("a dead one rests", light.leastStep(1), 0);
    }

    private static void dearestWhenAllRests(Due due) {
        due.promise(22, "Finds the zone whose death would put spots off the most, all together");
        Light light = Light.alone("0,0+4x4=100;20,8+4x4=120");
        due.due("dearest(0)", light.dearest(0), 17);
        due.due("dearest(1)", light.dearest(1), 1920);
        Light drawn = drawing();
        drawn.set(7, 5);
        drawn.kill(8, true);
        drawn.pass(2);
        int dearest = drawn.dearest(0);
        int most = drawn.dearest(1);
        for (int zone = 0; zone < 18; zone++) {
            if (zone != 8) {
                drawn.kill(zone, true);
                drawn.pass(99);
                due.due("all rests", drawn.count(10), 1);
                int off = drawn.count(7);
                due.check("the death of " + zone + " puts them off no more", off <= most);
                due.check("the dearest does so the most", zone != dearest || off == most);
                due.check("none that is lower does", zone >= dearest || off < most);
                drawn.undo();
                drawn.undo();
            }
        }
    }

    private static void dearestLowest(Due due) {
        due.promise(22, "of several the lowest");
        due.due("all alike", new Light().dearest(0), 0);
        due.due("off by nothing", new Light().dearest(1), 0);
        Light light = Light.alone("20,8+4x4=100;16,8+4x4=100;12,0+4x4=99");
        due.due("of 16 and 17", light.dearest(0), 16);
        due.due("off", light.dearest(1), 1600);
        light.askAll("12,0+4x4=100");
        due.due("of 3, 16 and 17", light.dearest(0), 3);
        light.askAll("0,0+4x4=100");
        due.due("of 0 and others", light.dearest(0), 0);
    }

    private static void dearestNotDead(Due due) {
        due.promise(22, "(of those that are not dead).");
        Light light = Light.alone("0,0+4x4=100;20,8+4x4=120");
        light.kill(17, true);
        due.due("dearest(0)", light.dearest(0), 0);
        due.due("with what is off by then", light.dearest(1), 1600 + 1920);
        light.kill(0, true);
        due.due("the lowest of the others", light.dearest(0), 1);
        due.due("no more is off", light.dearest(1), 3520);
        for (int zone = 0; zone < 17; zone++) {
            light.kill(zone, zone != 5);
        }
        due.due("the last one", light.dearest(0), 5);
        due.due("no more is off", light.dearest(1), 3520);
        Light first = new Light();
        first.kill(0, true);
        due.due("black, without 0", first.dearest(0), 1);
    }

    private static void dearestWhat(Due due) {
        due.promise(22, "- `what`: 0 for the zone, 1 for by how much spots would be off, all together");
        Light light = Light.alone("20,8+4x4=255;20,8+1x1=254");
        due.due("dearest(0)", light.dearest(0), 17);
        due.due("dearest(1)", light.dearest(1), 16 * 255 - 1);
        due.due("dearest(2)", light.dearest(2), -2);
        due.due("dearest(-1)", light.dearest(-1), -2);
        for (int what : Light.OUTSIDE) {
            due.due("dearest(" + what + ")", light.dearest(what), -2);
        }
        due.due("nobody died", light.count(9), 0);
        due.due("no act", light.count(11), 4);
    }

    private static void dearestBadValue(Due due) {
        due.promise(22, "Returns the number; BAD_VALUE");
        Light light = new Light();
        due.due("dearest(2)", light.dearest(2), -2);
        killAll(light);
        due.due("dearest(2) of none", light.dearest(2), -2);
        due.due("dearest(-1) of none", light.dearest(-1), -2);
    }

    private static void dearestNone(Due due) {
        due.promise(22, "NONE if all zones are dead.");
        Light light = Light.alone("20,8+4x4=255");
        killAll(light);
        due.due("dearest(0)", light.dearest(0), -5);
        due.due("dearest(1)", light.dearest(1), -5);
        due.due("ifRule(0, 0)", light.ifRule(0, 0), 0);
        due.due("bestRule()", light.bestRule(), 0);
        due.due("restsIn()", light.restsIn(), 0);
        light.kill(17, false);
        due.due("one lives", light.dearest(0), 17);
    }

    private static void killAll(Light light) {
        for (int zone = 0; zone < 18; zone++) {
            light.kill(zone, true);
        }
    }
}
