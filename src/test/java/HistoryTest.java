import java.util.ArrayList;
import java.util.List;
import java.util.Random;

/** The terms HISTORY, and promises 11 undo, 12 keep and 13 restore. */
final class HistoryTest {
    public static void main(String[] args) {
        Due due = new Due();
        fourAtMost(due);
        oldestIsDropped(due);
        latestIsRestored(due);
        dropsAndUndoesInTurn(due);
        recordedByActs(due);
        notRecorded(due);
        oneSnapshot(due);
        allOfTheState(due);
        textIsNoState(due);
        undoRemovesAndRestores(due);
        undoReturnsWhatIsLeft(due);
        undoOfNothing(due);
        keepInPlace(due);
        keepReturnsFrames(due);
        restoreStays(due);
        restoreIsAnAct(due);
        restoreReturnsFrames(due);
        restoreOfNothing(due);
        due.close("HistoryTest");
    }

    private static void fourAtMost(Due due) {
        due.terms(11, "A history of at most 4 states is kept");
        Light light = new Light();
        due.due("at first", light.count(11), 0);
        for (int bright = 1; bright <= 9; bright++) {
            light.ask(1, 1, bright);
            due.due("states", light.count(11), Math.min(4, bright));
        }
    }

    private static void oldestIsDropped(Due due) {
        due.terms(11, "when one more is recorded, the oldest one is dropped");
        for (int acts = 4; acts <= 9; acts++) {
            Light light = new Light();
            for (int bright = 1; bright <= acts; bright++) {
                light.ask(1, 1, bright);
            }
            for (int left = 3; left >= 0; left--) {
                due.due("undo()", light.undo(), left);
                due.due("spot", light.spot(1, 1, 0), acts - 4 + left);
            }
            due.due("undo() of a dropped one", light.undo(), -5);
            due.due("spot", light.spot(1, 1, 0), acts - 4);
        }
    }

    private static void latestIsRestored(Due due) {
        due.terms(11, "undo() removes and restores the latest one.");
        Light light = new Light();
        light.ask(1, 1, 5);
        light.ask(2, 2, 6);
        due.due("undo()", light.undo(), 1);
        due.due("the latest is undone", light.spot(2, 2, 0), 0);
        due.due("the one before is not", light.spot(1, 1, 0), 5);
        due.due("undo()", light.undo(), 0);
        due.due("the one before", light.spot(1, 1, 0), 0);
    }

    /** Drawn acts and undoes beside a plain list, so that the places of the history are used again. */
    private static void dropsAndUndoesInTurn(Due due) {
        due.terms(11, "is kept; when one more is recorded, the oldest one is dropped; undo() removes and");
        for (int seed = 1; seed <= 20; seed++) {
            Random random = new Random(seed);
            Light light = new Light();
            List<Integer> states = new ArrayList<>();
            int bright = 0;
            for (int i = 1; i <= 160; i++) {
                if (random.nextInt(5) < 3) {
                    light.ask(9, 9, i);
                    states.add(bright);
                    bright = i;
                } else {
                    int left = states.isEmpty() ? -5 : states.size() - 1;
                    due.due("undo()", light.undo(), left);
                    bright = left < 0 ? bright : states.remove(left);
                }
                if (states.size() > 4) {
                    states.remove(0);
                }
                due.due("spot", light.spot(9, 9, 0), bright);
                due.due("states", light.count(11), states.size());
            }
        }
    }

    private static void recordedByActs(Due due) {
        due.terms(11, "Each call of a method that is described as an act, and returns no error and not NONE");
        Light light = new Light();
        light.keep();
        due.due("restore()", light.restore(), 0);
        due.due("restore()", light.count(11), 1);
        light.ask(0, 0, 1);
        due.due("ask()", light.count(11), 2);
        light.pass(1);
        due.due("pass()", light.count(11), 3);
        light.move(0);
        due.due("move()", light.count(11), 4);
        light.undo();
        light.undo();
        light.undo();
        light.kill(0, true);
        due.due("kill()", light.count(11), 2);
        light.set(0, 181);
        due.due("set()", light.count(11), 3);
        light.askAll("0,0+1x1=5");
        due.due("askAll()", light.count(11), 4);
    }

    private static void notRecorded(Due due) {
        due.terms(11, "and returns no error and not NONE, records the state that was before it.");
        Light light = new Light();
        light.ask(0, 0, 0);
        light.ask(-1, 0, 0);
        light.ask(0, 0, -1);
        light.askAll();
        light.move(4);
        light.kill(0, false);
        light.kill(18, true);
        light.pass(0);
        light.set(0, 180);
        light.set(0, 0);
        light.restore();
        due.due("refused acts", light.count(11), 0);
        light.undo();
        light.keep();
        light.type('0');
        light.fault();
        light.clearText();
        light.spot(0, 0, 3);
        light.zone(0, 1);
        light.count(3);
        light.meanShown();
        light.restsIn();
        light.ifRule(2, 1);
        light.bestRule();
        light.leastStep(3);
        light.dearest(0);
        due.due("no acts", light.count(11), 0);
        due.due("undo()", light.undo(), -5);
    }

    private static void oneSnapshot(Due due) {
        due.terms(13, "There is one snapshot, empty at first.");
        Light light = new Light();
        due.due("empty", light.restore(), -5);
        light.ask(2, 2, 50);
        due.due("still empty", light.restore(), -5);
        light.undo();
        due.due("still empty", light.restore(), -5);
        light.keep();
        light.ask(2, 2, 60);
        light.keep();
        light.ask(2, 2, 70);
        light.restore();
        due.due("the second one", light.spot(2, 2, 0), 60);
        light.restore();
        due.due("no way to the first one", light.spot(2, 2, 0), 60);
    }

    private static void rich(Light light) {
        light.askAll("4,4+4x4=90;0,0+2x9=200");
        light.with(170, 12, 4, 1, 2, 6, 1, 40);
        light.kill(3, true);
        light.pass(2);
        light.clearText();
    }

    /** Acts that leave nothing of a state as it was. */
    private static void changeAll(Light light) {
        light.kill(3, false);
        light.kill(8, true);
        light.with(200, 20, 9, 2, 5, 9, 3, 7);
        light.askAll("1,0+23x12=120");
        light.pass(3);
        light.move(1);
        light.clearText();
    }

    private static void allOfTheState(Due due) {
        due.terms(13, "A state is everything but the text, the history and the snapshot.");
        Light light = new Light();
        rich(light);
        List<String> want = Seen.now(light);
        Light restored = new Light();
        rich(restored);
        restored.keep();
        changeAll(restored);
        restored.restore();
        due.same("restored", Seen.now(restored), want);
        // the history was full, so that an act drops a state, and there is one less behind its undo
        want.set(want.indexOf("count(11) answered 4"), "count(11) answered 3");
        for (int act = 0; act <= 6; act++) {
            Light undone = new Light();
            undone.keep();
            rich(undone);
            oneAct(undone, act);
            undone.undo();
            due.same("act " + act + " undone", Seen.now(undone), want);
        }
    }

    private static void oneAct(Light light, int act) {
        switch (act) {
            case 0:
                light.pass(5);
                break;
            case 1:
                light.move(0);
                break;
            case 2:
                light.kill(6, true);
                break;
            case 3:
                light.set(5, 50);
                break;
            case 4:
                light.askAll("7,3+9x9=0");
                light.clearText();
                break;
            case 5:
                light.restore();
                break;
            default:
                light.ask(0, 0, 1);
                break;
        }
    }

    private static void textIsNoState(Due due) {
        due.terms(8, "A state is everything but the text");
        Light light = new Light();
        light.keep();
        light.type('1');
        light.ask(0, 0, 9);
        light.type('2');
        light.undo();
        due.due("undo() leaves the text", light.count(12), 2);
        light.type('3');
        light.restore();
        due.due("restore() leaves the text", light.count(12), 3);
        due.due("fault()", light.fault(), 2);
        light.write("0,0+1x1=7");
        light.askAll();
        light.undo();
        due.due("undo() of askAll() leaves the text", light.askAll(), 1);
    }

    private static void undoRemovesAndRestores(Due due) {
        due.promise(11, "Removes and restores the latest state of the history.");
        Light light = new Light();
        light.ask(1, 1, 5);
        light.pass(3);
        light.undo();
        due.due("frames", light.count(0), 0);
        due.due("levels", light.count(1), 0);
        due.due("spot", light.spot(1, 1, 0), 5);
        due.due("it is no act", light.count(11), 1);
        light.ask(1, 1, 7);
        light.undo();
        due.due("what was asked in its place is undone", light.spot(1, 1, 0), 5);
        light.undo();
        due.due("the first", light.spot(1, 1, 0), 0);
    }

    private static void undoReturnsWhatIsLeft(Due due) {
        due.promise(11, "Returns the number of states that are left");
        Light light = new Light();
        for (int acts = 1; acts <= 6; acts++) {
            light.move(0);
        }
        for (int left = 3; left >= 0; left--) {
            due.due("undo()", light.undo(), left);
            due.due("states", light.count(11), left);
        }
        light.move(0);
        due.due("undo() of the only one", light.undo(), 0);
    }

    private static void undoOfNothing(Due due) {
        due.promise(11, "NONE if the history is empty.");
        Light light = new Light();
        due.due("at first", light.undo(), -5);
        light.ask(1, 1, 5);
        due.due("the only one", light.undo(), 0);
        due.due("empty again", light.undo(), -5);
        due.due("and again", light.undo(), -5);
        due.due("states", light.count(11), 0);
        light.ask(1, 1, 6);
        due.due("one more", light.undo(), 0);
        due.due("spot", light.spot(1, 1, 0), 0);
    }

    private static void keepInPlace(Due due) {
        due.promise(12, "Takes a snapshot of the state, in place of the one that was.");
        Light light = new Light();
        light.keep();
        due.due("it is no act", light.count(11), 0);
        light.ask(2, 2, 50);
        light.keep();
        due.due("the state stays", light.spot(2, 2, 0), 50);
        light.ask(2, 2, 60);
        light.restore();
        due.due("the new one", light.spot(2, 2, 0), 50);
        light.ask(2, 2, 70);
        light.keep();
        light.undo();
        due.due("undone", light.spot(2, 2, 0), 50);
        light.restore();
        due.due("the newest one, though it was undone", light.spot(2, 2, 0), 70);
    }

    private static void keepReturnsFrames(Due due) {
        due.promise(12, "Returns the frames so far.");
        Light light = new Light();
        due.due("at first", light.keep(), 0);
        light.pass(99);
        due.due("after frames", light.keep(), 99);
        light.pass(1);
        due.due("after one more", light.keep(), 100);
        light.undo();
        due.due("after undo()", light.keep(), 99);
    }

    private static void restoreStays(Due due) {
        due.promise(13, "Restores the state of the snapshot, which stays.");
        Light light = new Light();
        light.ask(2, 2, 50);
        light.keep();
        for (int bright = 60; bright < 66; bright++) {
            light.ask(2, 2, bright);
            due.due("restore()", light.restore(), 0);
            due.due("spot", light.spot(2, 2, 0), 50);
        }
        for (int i = 0; i < 4; i++) {
            light.undo();
        }
        light.restore();
        due.due("undo() does not take it", light.spot(2, 2, 0), 50);
        light.pass(3);
        light.kill(0, true);
        light.restore();
        due.due("frames behind restore() are not in it", light.count(0), 0);
        due.due("nor is a death", light.count(9), 0);
    }

    private static void restoreIsAnAct(Due due) {
        due.promise(13, "This is an act.");
        Light light = new Light();
        light.keep();
        light.ask(2, 2, 60);
        light.restore();
        due.due("states", light.count(11), 2);
        light.restore();
        due.due("states, though nothing was another", light.count(11), 3);
        light.undo();
        light.undo();
        due.due("undone", light.spot(2, 2, 0), 60);
        due.due("states", light.count(11), 1);
    }

    private static void restoreReturnsFrames(Due due) {
        due.promise(13, "Returns the frames so far then");
        Light light = new Light();
        light.keep();
        light.pass(7);
        due.due("the snapshot's", light.restore(), 0);
        light.pass(5);
        light.keep();
        light.pass(99);
        due.due("the snapshot's", light.restore(), 5);
        due.due("count(0)", light.count(0), 5);
        light.undo();
        due.due("count(0) undone", light.count(0), 104);
    }

    private static void restoreOfNothing(Due due) {
        due.promise(13, "NONE if there is no snapshot.");
        Light light = new Light();
        due.due("at first", light.restore(), -5);
        light.ask(1, 1, 5);
        light.pass(1);
        due.due("later", light.restore(), -5);
        due.due("nothing is restored", light.count(0), 1);
        due.due("it records nothing", light.count(11), 2);
        light.undo();
        due.due("after undo()", light.restore(), -5);
    }
}
