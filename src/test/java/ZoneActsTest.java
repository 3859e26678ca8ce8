/** Promises 5 kill, 6 pass and 7 set. */
final class ZoneActsTest {
    public static void main(String[] args) {
        Due due = new Due();
        deadAtOnce(due);
        livesAgain(due);
        killZone(due);
        killDead(due);
        killReturnsLevel(due);
        killUnknown(due);
        killSoAlready(due);
        killIsAnAct(due);
        framesPass(due);
        passFrames(due);
        passReturnsPower(due);
        passBadValue(due);
        passIsAnAct(due);
        setsSetting(due);
        setWhich(due);
        setValue(due);
        setReturnsPrevious(due);
        setBadValue(due);
        setSoAlready(due);
        setIsAnAct(due);
        due.close("ZoneActsTest");
    }

    /** Zone 7 alone is lit; its wanted level is 90 * 256 / 180. */
    private static Light zoneSeven() {
        return Light.asking("4,4+4x4=90");
    }

    private static void deadAtOnce(Due due) {
        due.promise(5, "Lets a zone be dead (its level is 0 at once)");
        Light light = zoneSeven();
        light.pass(1);
        due.due("level", light.zone(7, 0), 128);
        light.kill(7, true);
        due.due("level", light.zone(7, 0), 0);
        due.due("dead", light.zone(7, 3), 1);
        due.due("power", light.count(1), 0);
        due.due("no frame has passed", light.count(0), 1);
        due.due("no flicker by it", light.count(2), 128);
        due.due("power of frames stays", light.count(3), 128);
        due.due("the picture stays", light.spot(4, 4, 0), 90);
        due.due("another one lives", light.zone(8, 3), 0);
    }

    private static void livesAgain(Due due) {
        due.promise(5, "or live again (its level is 0).");
        Light light = zoneSeven();
        light.pass(1);
        light.kill(7, true);
        light.kill(7, false);
        due.due("dead", light.zone(7, 3), 0);
        due.due("level", light.zone(7, 0), 0);
        due.due("wanted", light.zone(7, 1), 128);
        light.pass(1);
        due.due("level in a frame", light.zone(7, 0), 128);
    }

    private static void killZone(Due due) {
        due.promise(5, "- `zone`: 0 to 17");
        Light light = new Light();
        for (int zone = 0; zone < 18; zone++) {
            due.due("kill(" + zone + ", true)", light.kill(zone, true), 0);
            due.due("dead", light.zone(zone, 3), 1);
            due.due("dead zones", light.count(9), zone + 1);
        }
        due.due("kill(18, true)", light.kill(18, true), -1);
        due.due("kill(18, false)", light.kill(18, false), -1);
        due.due("kill(-1, true)", light.kill(-1, true), -1);
        due.due("kill(-1, false)", light.kill(-1, false), -1);
        for (int zone : Light.OUTSIDE) {
            due.due("kill(" + zone + ", false)", light.kill(zone, false), -1);
        }
        due.due("dead zones", light.count(9), 18);
    }

    private static void killDead(Due due) {
        due.promise(5, "- `dead`: whether it is dead");
        Light light = new Light();
        due.due("kill(17, true)", light.kill(17, true), 0);
        due.due("zone(17, 3)", light.zone(17, 3), 1);
        due.due("kill(17, false)", light.kill(17, false), 0);
        due.due("zone(17, 3)", light.zone(17, 3), 0);
        due.due("dead zones", light.count(9), 0);
    }

    private static void killReturnsLevel(Due due) {
        due.promise(5, "Returns the level that it had");
        Light light = Light.asking("4,4+4x4=255;8,4+4x4=1");
        due.due("dark", light.kill(7, true), 0);
        light.kill(7, false);
        light.pass(1);
        due.due("as bright as can be", light.kill(7, true), 255);
        due.due("dead", light.kill(7, false), 0);
        Light least = Light.alone("8,4+4x4=1");
        least.pass(1);
        due.due("a level of 1", least.kill(8, true), 1);
    }

    private static void killUnknown(Due due) {
        due.promise(5, "UNKNOWN");
        Light light = Light.asking("0,0+24x12=9");
        light.pass(1);
        due.due("too great", light.kill(18, true), -1);
        due.due("too small", light.kill(-1, true), -1);
        due.due("none of them lives already", light.kill(18, false), -1);
        due.due("none is dead", light.count(9), 0);
        due.due("no act", light.count(11), 2);
    }

    private static void killSoAlready(Due due) {
        due.promise(5, "NONE if it is so already.");
        Light light = zoneSeven();
        due.due("lives at first", light.kill(7, false), -5);
        light.pass(1);
        due.due("lives with a level", light.kill(7, false), -5);
        due.due("its level stays", light.zone(7, 0), 128);
        light.kill(7, true);
        due.due("dead", light.kill(7, true), -5);
        due.due("states", light.count(11), 3);
        light.kill(7, false);
        due.due("lives again", light.kill(7, false), -5);
        due.due("states", light.count(11), 4);
    }

    private static void killIsAnAct(Due due) {
        due.promise(5, "This is an act.");
        Light light = zoneSeven();
        light.pass(1);
        light.kill(7, true);
        due.due("states", light.count(11), 3);
        light.kill(7, false);
        due.due("states", light.count(11), 4);
        light.undo();
        due.due("dead again", light.zone(7, 3), 1);
        light.undo();
        due.due("alive", light.zone(7, 3), 0);
        due.due("with its level", light.zone(7, 0), 128);
    }

    private static void framesPass(Due due) {
        due.promise(6, "Lets frames pass.");
        Light light = zoneSeven();
        light.set(7, 50);
        light.pass(1);
        light.pass(1);
        due.due("two frames", light.zone(7, 0), 100);
        Light one = zoneSeven();
        one.set(7, 50);
        one.pass(2);
        due.due("two frames at once", one.zone(7, 0), 100);
        due.due("power of frames", one.count(3), 150);
        one.pass(1);
        due.due("three", one.zone(7, 0), 128);
        due.due("frames", one.count(0), 3);
        due.due("the picture stays", one.spot(4, 4, 0), 90);
    }

    private static void passFrames(Due due) {
        due.promise(6, "- `frames`: 1 to 99");
        Light light = zoneSeven();
        light.set(7, 1);
        due.due("pass(0)", light.pass(0), -2);
        due.due("pass(-1)", light.pass(-1), -2);
        due.due("pass(100)", light.pass(100), -2);
        for (int frames : Light.OUTSIDE) {
            due.due("pass(" + frames + ")", light.pass(frames), -2);
        }
        due.due("no frame", light.count(0), 0);
        due.due("pass(1)", light.pass(1), 1);
        due.due("frames", light.count(0), 1);
        due.due("pass(99)", light.pass(99), 100);
        due.due("frames", light.count(0), 100);
        due.due("pass(98)", light.pass(98), 128);
        due.due("frames", light.count(0), 198);
    }

    private static void passReturnsPower(Due due) {
        due.promise(6, "Returns the power of the last one");
        Light light = Light.alone("4,4+4x4=90;20,8+4x4=45");
        light.set(7, 40);
        due.due("the first", light.pass(1), 80);
        due.due("the last of two", light.pass(2), 135);
        due.due("at rest", light.pass(99), 135);
        light.askAll("0,0+24x12=0");
        due.due("down", light.pass(1), 50 + 5);
        due.due("dark", light.pass(99), 0);
        due.due("a new one", new Light().pass(1), 0);
    }

    private static void passBadValue(Due due) {
        due.promise(6, "BAD_VALUE");
        Light light = zoneSeven();
        due.due("none", light.pass(0), -2);
        due.due("too many", light.pass(100), -2);
        due.due("no frame", light.count(0), 0);
        due.due("no level", light.count(1), 0);
        due.due("no act", light.count(11), 1);
        light.pass(1);
        due.due("none at rest", light.pass(0), -2);
        due.due("too many at rest", light.pass(100), -2);
    }

    private static void passIsAnAct(Due due) {
        due.promise(6, "This is an act.");
        Light light = zoneSeven();
        light.pass(99);
        due.due("one state for all frames", light.count(11), 2);
        light.pass(1);
        due.due("also at rest", light.count(11), 3);
        light.undo();
        due.due("undone", light.count(0), 99);
        light.undo();
        due.due("undone", light.count(0), 0);
        due.due("power", light.count(1), 0);
        due.due("flicker", light.count(2), 0);
        due.due("power of frames", light.count(3), 0);
    }

    private static final int[] LEAST = {100, 0, 0, 0, 0, 0, 0, 1};
    private static final int[] FIRST = {180, 9, 1, 0, 3, 4, 2, 255};
    private static final int[] GREATEST = {256, 30, 9, 2, 9, 50, 20, 255};

    private static void setsSetting(Due due) {
        due.promise(7, "Sets a setting.");
        for (int which = 0; which < 8; which++) {
            Light light = new Light();
            int value = FIRST[which] == LEAST[which] ? GREATEST[which] : LEAST[which];
            light.set(which, value);
            for (int other = 0; other < 8; other++) {
                int want = other == which ? value : FIRST[other];
                due.due("setting " + other + " behind set(" + which + ")", light.count(13 + other), want);
            }
        }
        Light light = zoneSeven();
        light.pass(1);
        light.set(0, 256);
        due.due("levels stay", light.zone(7, 0), 128);
        due.due("frames stay", light.count(0), 1);
        due.due("the light is another", light.zone(7, 2), 128);
        due.due("the wanted level is another", light.zone(7, 1), 90);
    }

    private static void setWhich(Due due) {
        due.promise(7, "- `which`: 0 to 7");
        for (int which = 0; which < 8; which++) {
            Light light = new Light();
            due.due("set(" + which + ")", light.set(which, FIRST[which]), -5);
            due.due("set(" + which + ")", light.set(which, GREATEST[which] - 1), FIRST[which]);
        }
        Light light = new Light();
        for (int value : new int[] {0, 1, 2, 100, 255}) {
            due.due("set(-1, " + value + ")", light.set(-1, value), -2);
            due.due("set(8, " + value + ")", light.set(8, value), -2);
            for (int which : Light.OUTSIDE) {
                due.due("set(" + which + ", " + value + ")", light.set(which, value), -2);
            }
        }
        due.due("no act", light.count(11), 0);
    }

    private static void setValue(Due due) {
        due.promise(7, "- `value`: in its range");
        for (int which = 0; which < 8; which++) {
            Light light = new Light();
            String name = "set(" + which + ", ";
            due.due(name + "too little)", light.set(which, LEAST[which] - 1), -2);
            due.due(name + "too much)", light.set(which, GREATEST[which] + 1), -2);
            for (int value : Light.OUTSIDE) {
                due.due(name + value + ")", light.set(which, value), -2);
            }
            due.due("no act", light.count(11), 0);
            due.due("the first one still", light.count(13 + which), FIRST[which]);
            light.set(which, LEAST[which]);
            due.due("the least", light.count(13 + which), LEAST[which]);
            light.set(which, GREATEST[which]);
            due.due("the greatest", light.count(13 + which), GREATEST[which]);
        }
    }

    private static void setReturnsPrevious(Due due) {
        due.promise(7, "Returns the previous one");
        Light light = new Light();
        due.due("set(4, 0)", light.set(4, 0), 3);
        due.due("set(4, 9)", light.set(4, 9), 0);
        due.due("set(4, 1)", light.set(4, 1), 9);
        due.due("set(7, 1)", light.set(7, 1), 255);
        due.due("set(7, 255)", light.set(7, 255), 1);
        due.due("set(0, 256)", light.set(0, 256), 180);
        due.due("set(0, 100)", light.set(0, 100), 256);
        light.undo();
        due.due("set(0, 100)", light.set(0, 100), 256);
    }

    private static void setBadValue(Due due) {
        due.promise(7, "BAD_VALUE (which or value)");
        Light light = new Light();
        due.due("which alone", light.set(8, 1), -2);
        due.due("value alone", light.set(0, 99), -2);
        due.due("both", light.set(8, -1), -2);
        due.due("the value of another", light.set(3, 3), -2);
        due.due("the value of another", light.set(0, 9), -2);
    }

    private static void setSoAlready(Due due) {
        due.promise(7, "NONE if it is so already.");
        for (int which = 0; which < 8; which++) {
            Light light = new Light();
            due.due("the first one of " + which, light.set(which, FIRST[which]), -5);
            due.due("states", light.count(11), 0);
            light.set(which, GREATEST[which] - 1);
            due.due("again", light.set(which, GREATEST[which] - 1), -5);
            due.due("states", light.count(11), 1);
        }
    }

    private static void setIsAnAct(Due due) {
        due.promise(7, "This is an act.");
        Light light = new Light();
        light.set(0, 256);
        light.set(7, 9);
        due.due("states", light.count(11), 2);
        light.undo();
        due.due("undone", light.count(20), 255);
        due.due("not undone", light.count(13), 256);
        light.undo();
        due.due("undone", light.count(13), 180);
    }
}
