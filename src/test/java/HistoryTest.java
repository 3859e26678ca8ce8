/** Promises 11 undo, 12 keep and 13 restore. */
final class HistoryTest {
    public static void main(String[] args) {
        Due due = new Due();
        undo(due);
        fourAtMost(due);
        wholeState(due);
        actsOnly(due);
        snapshot(due);
        snapshotStays(due);
        textIsNoState(due);
        due.close("HistoryTest");
    }

    private static void undo(Due due) {
        ZonedLight light = new ZonedLight();
        due.due("undo of nothing", light.undo(), -5);
        light.ask(1, 1, 5);
        light.ask(1, 1, 6);
        due.due("undo", light.undo(), 1);
        due.due("spot", light.spot(1, 1, 0), 5);
        due.due("undo", light.undo(), 0);
        due.due("spot", light.spot(1, 1, 0), 0);
        due.due("undo of nothing", light.undo(), -5);
        light.ask(1, 1, 7);
        due.due("history", light.count(11), 1);
        due.due("undo", light.undo(), 0);
        due.due("spot", light.spot(1, 1, 0), 0);
    }

    private static void fourAtMost(Due due) {
        ZonedLight light = new ZonedLight();
        for (int bright = 1; bright <= 11; bright++) {
            light.ask(1, 1, bright);
            due.due("history", light.count(11), Math.min(4, bright));
        }
        for (int left = 3; left >= 0; left--) {
            due.due("undo", light.undo(), left);
            due.due("spot", light.spot(1, 1, 0), 7 + left);
        }
        due.due("the rest is dropped", light.undo(), -5);
        due.due("spot", light.spot(1, 1, 0), 7);
    }

    /** Everything of a state at once, so that a part that is not brought back is seen. */
    private static void wholeState(Due due) {
        ZonedLight light = Due.asking("4,4+4x4=90");
        light.kill(3, true);
        light.set(7, 100);
        light.pass(2);
        light.keep();
        checkState(due, "first", light);
        light.pass(1);
        light.undo();
        checkState(due, "after pass", light);
        light.move(0);
        light.undo();
        checkState(due, "after move", light);
        light.kill(7, true);
        light.undo();
        checkState(due, "after kill", light);
        light.set(0, 200);
        light.undo();
        checkState(due, "after set", light);
        light.kill(3, false);
        light.set(4, 0);
        light.move(2);
        light.pass(7);
        due.due("restore", light.restore(), 2);
        checkState(due, "restored", light);
        due.due("undo of restore", light.undo(), 3);
        due.due("frames", light.count(0), 9);
        due.due("alive", light.zone(3, 3), 0);
        due.due("rounds", light.count(17), 0);
        due.due("moved", light.spot(4, 3, 0), 90);
    }

    private static void checkState(Due due, String when, ZonedLight light) {
        due.due(when + ": frames", light.count(0), 2);
        due.due(when + ": power", light.count(1), 128);
        due.due(when + ": flicker", light.count(2), 128);
        due.due(when + ": power of frames", light.count(3), 228);
        due.due(when + ": dead", light.zone(3, 3), 1);
        due.due(when + ": dead zones", light.count(9), 1);
        due.due(when + ": level", light.zone(7, 0), 128);
        due.due(when + ": own share", light.count(13), 180);
        due.due(when + ": rounds", light.count(17), 3);
        due.due(when + ": step", light.count(20), 100);
        due.due(when + ": picture", light.spot(4, 7, 0), 90);
        due.due(when + ": picture", light.spot(3, 7, 0), 0);
    }

    /** Each act records one state; what answers an error, NONE or only tells records none. */
    private static void actsOnly(Due due) {
        ZonedLight light = new ZonedLight();
        light.ask(0, 0, 0);
        light.ask(-1, 0, 0);
        light.ask(0, 0, -1);
        light.askAll();
        light.move(4);
        light.kill(0, false);
        light.kill(18, true);
        light.pass(0);
        light.set(0, 180);
        light.set(0, 0);
        light.restore();
        light.undo();
        light.keep();
        light.type('0');
        light.fault();
        light.clearText();
        light.spot(0, 0, 3);
        light.zone(0, 1);
        light.meanShown();
        light.restsIn();
        light.ifRule(2, 1);
        light.bestRule();
        light.leastStep(3);
        light.dearest(0);
        due.due("no act", light.count(11), 0);
        light.restore();
        due.due("restore", light.count(11), 1);
        light.ask(0, 0, 1);
        due.due("ask", light.count(11), 2);
        light.pass(1);
        due.due("pass", light.count(11), 3);
        light.undo();
        light.undo();
        light.undo();
        light.move(0);
        due.due("move", light.count(11), 1);
        light.kill(0, true);
        due.due("kill", light.count(11), 2);
        light.set(0, 181);
        due.due("set", light.count(11), 3);
        Due.write(light, "0,0+1x1=5");
        light.askAll();
        due.due("askAll", light.count(11), 4);
    }

    private static void snapshot(Due due) {
        ZonedLight light = new ZonedLight();
        due.due("none", light.restore(), -5);
        due.due("keep", light.keep(), 0);
        light.pass(5);
        due.due("keep is no act", light.count(11), 1);
        due.due("restore", light.restore(), 0);
        due.due("frames", light.count(0), 0);
        due.due("restore is an act", light.count(11), 2);
        due.due("restore again", light.restore(), 0);
        due.due("an act again", light.count(11), 3);
        light.pass(7);
        due.due("keep", light.keep(), 7);
        light.undo();
        due.due("restore the new one", light.restore(), 7);
        due.due("undo", light.undo(), 3);
        due.due("frames", light.count(0), 0);
    }

    private static void snapshotStays(Due due) {
        ZonedLight light = new ZonedLight();
        light.ask(2, 2, 50);
        light.keep();
        light.ask(2, 2, 60);
        due.due("acts do not change it", light.restore(), 0);
        due.due("spot", light.spot(2, 2, 0), 50);
        light.ask(2, 2, 70);
        due.due("nor those behind a restore", light.restore(), 0);
        due.due("spot", light.spot(2, 2, 0), 50);
        for (int i = 0; i < 4; i++) {
            light.undo();
        }
        due.due("undo does not take it", light.restore(), 0);
        due.due("spot", light.spot(2, 2, 0), 50);
    }

    private static void textIsNoState(Due due) {
        ZonedLight light = new ZonedLight();
        light.keep();
        light.type('1');
        light.ask(0, 0, 9);
        light.type('2');
        light.undo();
        due.due("undo leaves the text", light.count(12), 2);
        light.type('3');
        light.restore();
        due.due("restore leaves the text", light.count(12), 3);
        due.due("fault", light.fault(), 2);
    }
}
