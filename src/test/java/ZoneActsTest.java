/** Promises 5 kill, 6 pass and 7 set. */
final class ZoneActsTest {
    private static final int FAR = Integer.MAX_VALUE;
    private static final int DEEP = Integer.MIN_VALUE;

    public static void main(String[] args) {
        Due due = new Due();
        kill(due);
        killWrong(due);
        pass(due);
        passWithStep(due);
        passDown(due);
        passWithDead(due);
        set(due);
        setActs(due);
        due.close("ZoneActsTest");
    }

    /** Zone 7 alone is lit; its wanted level is 90 * 256 / 180. */
    private static ZonedLight zoneSeven() {
        return Due.asking("4,4+4x4=90");
    }

    private static void kill(Due due) {
        ZonedLight light = zoneSeven();
        light.pass(1);
        due.due("kill", light.kill(7, true), 128);
        due.due("dead", light.zone(7, 3), 1);
        due.due("its level", light.zone(7, 0), 0);
        due.due("it is an act", light.count(11), 3);
        due.due("kill again", light.kill(7, true), -5);
        due.due("NONE is no act", light.count(11), 3);
        due.due("live", light.kill(7, false), 0);
        due.due("lives", light.zone(7, 3), 0);
        due.due("its level", light.zone(7, 0), 0);
        due.due("live again", light.kill(7, false), -5);
        due.due("history", light.count(11), 4);
        due.due("death is no flicker", light.count(2), 128);
        due.due("nor a frame", light.count(0), 1);
        due.due("power of frames stays", light.count(3), 128);
        due.due("undo", light.undo(), 3);
        due.due("dead again", light.zone(7, 3), 1);
        due.due("undo", light.undo(), 2);
        due.due("level again", light.zone(7, 0), 128);
        due.due("alive again", light.zone(7, 3), 0);
    }

    private static void killWrong(Due due) {
        ZonedLight light = new ZonedLight();
        for (int zone : new int[] {-1, 18, FAR, DEEP}) {
            due.due("kill(" + zone + ")", light.kill(zone, true), -1);
            due.due("live(" + zone + ")", light.kill(zone, false), -1);
        }
        due.due("lives already", light.kill(0, false), -5);
        due.due("no act", light.count(11), 0);
        due.due("first zone", light.kill(0, true), 0);
        due.due("last zone", light.kill(17, true), 0);
        due.due("dead zones", light.count(9), 2);
    }

    private static void pass(Due due) {
        ZonedLight light = zoneSeven();
        for (int frames : new int[] {0, -1, 100, FAR, DEEP}) {
            due.due("pass(" + frames + ")", light.pass(frames), -2);
        }
        due.due("no act", light.count(11), 1);
        due.due("no frame", light.count(0), 0);
        due.due("pass(1)", light.pass(1), 128);
        due.due("level", light.zone(7, 0), 128);
        due.due("it is an act", light.count(11), 2);
        due.due("pass(99)", light.pass(99), 128);
        due.due("frames", light.count(0), 100);
        due.due("flicker", light.count(2), 128);
        due.due("power of all", light.count(3), 12800);
        due.due("at rest it is an act", light.count(11), 3);
        light.undo();
        due.due("one frame again", light.count(0), 1);
        due.due("power of one", light.count(3), 128);
    }

    private static void passWithStep(Due due) {
        ZonedLight light = zoneSeven();
        light.set(7, 50);
        due.due("frame 1", light.pass(1), 50);
        due.due("frame 2", light.pass(1), 100);
        due.due("rests not", light.count(10), 0);
        due.due("frame 3", light.pass(1), 128);
        due.due("rests", light.count(10), 1);
        due.due("flicker", light.count(2), 128);
        due.due("power of all", light.count(3), 278);
        ZonedLight one = zoneSeven();
        one.set(7, 50);
        due.due("three at once", one.pass(3), 128);
        due.due("power of all", one.count(3), 278);
    }

    private static void passDown(Due due) {
        ZonedLight light = zoneSeven();
        light.pass(1);
        light.set(7, 30);
        Due.write(light, "4,4+4x4=0;20,0+4x4=45");
        light.askAll();
        // zone 7 goes down from 128, zone 5 up to 45 * 256 / 180
        due.due("wanted", light.zone(5, 1), 64);
        due.due("frame 1", light.pass(1), 98 + 30);
        due.due("flicker", light.count(2), 128 + 60);
        due.due("frame 2", light.pass(1), 68 + 60);
        due.due("frame 3", light.pass(1), 38 + 64);
        due.due("flicker", light.count(2), 128 + 60 + 60 + 34);
        due.due("frame 5", light.pass(2), 64);
        due.due("level 7", light.zone(7, 0), 0);
        due.due("flicker", light.count(2), 128 + 128 + 64);
    }

    private static void passWithDead(Due due) {
        ZonedLight light = Due.asking("0,0+4x4=90");
        light.kill(0, true);
        light.set(1, 0);
        due.due("nobody shines for it", light.pass(9), 0);
        due.due("its level", light.zone(0, 0), 0);
        due.due("all rests", light.count(10), 1);
        light.kill(0, false);
        due.due("it lives", light.pass(1), 128);
    }

    private static void set(Due due) {
        int[] first = {180, 9, 1, 0, 3, 4, 2, 255};
        int[] least = {100, 0, 0, 0, 0, 0, 0, 1};
        int[] greatest = {256, 30, 9, 2, 9, 50, 20, 255};
        for (int which = 0; which < 8; which++) {
            ZonedLight light = new ZonedLight();
            String name = "set(" + which + ")";
            due.due(name + " too little", light.set(which, least[which] - 1), -2);
            due.due(name + " too much", light.set(which, greatest[which] + 1), -2);
            due.due(name + " far", light.set(which, FAR), -2);
            due.due(name + " deep", light.set(which, DEEP), -2);
            due.due(name + " as it is", light.set(which, first[which]), -5);
            due.due(name + " no act", light.count(11), 0);
            boolean isLeast = first[which] == least[which];
            boolean isGreatest = first[which] == greatest[which];
            due.due(name + " least", light.set(which, least[which]), isLeast ? -5 : first[which]);
            due.due(name + " told", light.count(13 + which), least[which]);
            due.due(name + " greatest", light.set(which, greatest[which]), least[which]);
            due.due(name + " told", light.count(13 + which), greatest[which]);
            due.due(name + " first", light.set(which, first[which]), isGreatest ? -5 : greatest[which]);
            due.due(name + " acts", light.count(11), isLeast || isGreatest ? 2 : 3);
            for (int other = 0; other < 8; other++) {
                due.due(name + " others stay", light.count(13 + other), first[other]);
            }
        }
        ZonedLight light = new ZonedLight();
        for (int which : new int[] {-1, 8, FAR, DEEP}) {
            due.due("set(" + which + ")", light.set(which, 1), -2);
        }
        due.due("no act", light.count(11), 0);
    }

    private static void setActs(Due due) {
        ZonedLight light = zoneSeven();
        light.pass(1);
        due.due("own share", light.set(0, 256), 180);
        due.due("levels stay", light.zone(7, 0), 128);
        due.due("light is other", light.zone(7, 2), 128);
        due.due("wanted is other", light.zone(7, 1), 90);
        due.due("undo", light.undo(), 2);
        due.due("light", light.zone(7, 2), 90);
        due.due("setting", light.count(13), 180);
    }
}
