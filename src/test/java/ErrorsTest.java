import java.util.List;

/** The terms ERRORS: their order, NONE, and that what is refused, or only tells, changes nothing. */
final class ErrorsTest {
    public static void main(String[] args) {
        Due due = new Due();
        orderOfAsk(due);
        orderOfSpot(due);
        orderOfZone(due);
        noneOfKill(due);
        noneOfSet(due);
        noneOfDearest(due);
        unknown(due);
        badValue(due);
        full(due);
        none(due);
        refusedPictures(due);
        refusedZoneActs(due);
        refusedTexts(due);
        refusedHistory(due);
        refusedQuestions(due);
        askedQuestions(due);
        due.close("ErrorsTest");
    }

    private static void orderOfAsk(Due due) {
        due.terms(2, "Where several errors can apply, the order of the @return line is the order");
        Light light = new Light();
        due.due("ask(24, 0, 256)", light.ask(24, 0, 256), -1);
        due.due("ask(0, 12, -1)", light.ask(0, 12, -1), -1);
        due.due("ask(-1, -1, 256)", light.ask(-1, -1, 256), -1);
        due.due("ask(0, 0, 256)", light.ask(0, 0, 256), -2);
    }

    private static void orderOfSpot(Due due) {
        due.terms(14, "the order of the @return line is the order of the checks.");
        Light light = new Light();
        due.due("spot(24, 0, 5)", light.spot(24, 0, 5), -1);
        due.due("spot(0, -1, -1)", light.spot(0, -1, -1), -1);
        due.due("spot(0, 0, 5)", light.spot(0, 0, 5), -2);
    }

    private static void orderOfZone(Due due) {
        due.terms(15, "the order of the @return line is the order of the checks.");
        Light light = new Light();
        due.due("zone(18, 9)", light.zone(18, 9), -1);
        due.due("zone(-1, -1)", light.zone(-1, -1), -1);
        due.due("zone(0, 9)", light.zone(0, 9), -2);
    }

    private static void noneOfKill(Due due) {
        due.terms(5, "NONE is no error; it is returned only if no error applies.");
        Light light = new Light();
        due.due("kill(18, false)", light.kill(18, false), -1);
        due.due("kill(-1, false)", light.kill(-1, false), -1);
        due.due("kill(17, false)", light.kill(17, false), -5);
    }

    private static void noneOfSet(Due due) {
        due.terms(7, "NONE is no error; it is returned only if no error applies.");
        Light light = new Light();
        due.due("set(8, 0)", light.set(8, 0), -2);
        due.due("set(7, 256)", light.set(7, 256), -2);
        due.due("set(7, 255)", light.set(7, 255), -5);
    }

    private static void noneOfDearest(Due due) {
        due.terms(22, "NONE is no error; it is returned only if no error applies.");
        Light light = new Light();
        killAll(light);
        due.due("dearest(2)", light.dearest(2), -2);
        due.due("dearest(-1)", light.dearest(-1), -2);
        due.due("dearest(1)", light.dearest(1), -5);
    }

    private static void killAll(Light light) {
        for (int zone = 0; zone < 18; zone++) {
            light.kill(zone, true);
        }
    }

    private static void unknown(Due due) {
        due.terms(14, "`UNKNOWN = -1`: There is no such spot or zone.");
        Light light = new Light();
        due.due("ask(0, 12, 0)", light.ask(0, 12, 0), ZonedLight.UNKNOWN);
        due.due("spot(24, 11, 0)", light.spot(24, 11, 0), ZonedLight.UNKNOWN);
        due.due("kill(18, true)", light.kill(18, true), ZonedLight.UNKNOWN);
        due.due("zone(18, 0)", light.zone(18, 0), ZonedLight.UNKNOWN);
    }

    private static void badValue(Due due) {
        due.terms(16, "`BAD_VALUE = -2`: Another argument is out of range.");
        Light light = new Light();
        due.due("ask(0, 0, 256)", light.ask(0, 0, 256), ZonedLight.BAD_VALUE);
        due.due("move(4)", light.move(4), ZonedLight.BAD_VALUE);
        due.due("pass(100)", light.pass(100), ZonedLight.BAD_VALUE);
        due.due("set(8, 0)", light.set(8, 0), ZonedLight.BAD_VALUE);
        due.due("spot(0, 0, 5)", light.spot(0, 0, 5), ZonedLight.BAD_VALUE);
        due.due("zone(0, 9)", light.zone(0, 9), ZonedLight.BAD_VALUE);
        due.due("count(21)", light.count(21), ZonedLight.BAD_VALUE);
        due.due("ifRule(3, 0)", light.ifRule(3, 0), ZonedLight.BAD_VALUE);
        due.due("leastStep(256)", light.leastStep(256), ZonedLight.BAD_VALUE);
        due.due("dearest(2)", light.dearest(2), ZonedLight.BAD_VALUE);
    }

    private static void full(Due due) {
        due.terms(8, "`FULL = -3`: There is no more room.");
        Light light = new Light().typeOn("-".repeat(60));
        due.due("type", light.type('-'), ZonedLight.FULL);
    }

    private static void none(Due due) {
        due.terms(11, "`NONE = -5`: There is no such thing; not an error.");
        Light light = new Light();
        due.due("ask(0, 0, 0)", light.ask(0, 0, 0), ZonedLight.NONE);
        due.due("kill(0, false)", light.kill(0, false), ZonedLight.NONE);
        due.due("set(0, 180)", light.set(0, 180), ZonedLight.NONE);
        due.due("undo()", light.undo(), ZonedLight.NONE);
        due.due("restore()", light.restore(), ZonedLight.NONE);
        light.write("1,1+1x1=1");
        due.due("fault()", light.fault(), ZonedLight.NONE);
        killAll(light);
        due.due("dearest(0)", light.dearest(0), ZonedLight.NONE);
    }

    /** A state of which no part is as it was at first, with a full history, a snapshot and a text. */
    private static void rich(Light light) {
        light.askAll("4,4+4x4=90;0,0+2x9=200");
        light.with(170, 12, 4, 1, 2, 6, 1, 40);
        light.keep();
        light.pass(1);
        light.kill(3, true);
        light.move(1);
        light.ask(20, 9, 255);
        light.pass(2);
        light.write("9,9+9x3=33;24");
    }

    private static void asNew(Light light) {
    }

    private static void beginRefused(Due due, int promise) {
        due.terms(promise, "A call that returns an error or NONE changes nothing.");
    }

    /** What is told, and what would be, is no act: it leaves all as it is. */
    private static void beginAsked(Due due, int promise) {
        due.terms(promise, "Each call of a method that is described as an act");
    }

    private static void changesNothing(Due due, Seen.Calls state, Seen.Calls calls) {
        List<String> before = Seen.after(state);
        due.same("all that is seen", Seen.after(light -> {
            state.on(light);
            calls.on(light);
        }), before);
    }

    private static void inAnyState(Due due, Seen.Calls calls) {
        changesNothing(due, ErrorsTest::rich, calls);
        changesNothing(due, ErrorsTest::asNew, calls);
    }

    private static void refusedPictures(Due due) {
        beginRefused(due, 2);
        inAnyState(due, light -> {
            due.due("ask(24, 0, 7)", light.ask(24, 0, 7), -1);
            due.due("ask(-1, 1, 7)", light.ask(-1, 1, 7), -1);
            due.due("ask(0, 12, 7)", light.ask(0, 12, 7), -1);
            due.due("ask(0, 0, 256)", light.ask(0, 0, 256), -2);
            due.due("ask(0, 0, -1)", light.ask(0, 0, -1), -2);
            due.due("ask(23, 11, 0)", light.ask(23, 11, 0), -5);
        });
        changesNothing(due, ErrorsTest::rich, light ->
                due.due("ask(20, 9, 255)", light.ask(20, 9, 255), -5));
        beginRefused(due, 3);
        changesNothing(due, ErrorsTest::rich, light -> due.due("askAll()", light.askAll(), -112));
        changesNothing(due, ErrorsTest::asNew, light -> due.due("askAll()", light.askAll(), -100));
        beginRefused(due, 4);
        inAnyState(due, light -> {
            due.due("move(4)", light.move(4), -2);
            due.due("move(-1)", light.move(-1), -2);
        });
    }

    private static void refusedZoneActs(Due due) {
        beginRefused(due, 5);
        inAnyState(due, light -> {
            due.due("kill(18, true)", light.kill(18, true), -1);
            due.due("kill(-1, false)", light.kill(-1, false), -1);
            due.due("kill(7, false)", light.kill(7, false), -5);
        });
        changesNothing(due, ErrorsTest::rich, light -> due.due("kill(3, true)", light.kill(3, true), -5));
        beginRefused(due, 6);
        inAnyState(due, light -> {
            due.due("pass(0)", light.pass(0), -2);
            due.due("pass(-1)", light.pass(-1), -2);
            due.due("pass(100)", light.pass(100), -2);
        });
        beginRefused(due, 7);
        inAnyState(due, light -> {
            due.due("set(8, 1)", light.set(8, 1), -2);
            due.due("set(-1, 1)", light.set(-1, 1), -2);
            due.due("set(0, 99)", light.set(0, 99), -2);
            due.due("set(0, 257)", light.set(0, 257), -2);
            due.due("set(7, 0)", light.set(7, 0), -2);
            due.due("set(7, 256)", light.set(7, 256), -2);
        });
        changesNothing(due, ErrorsTest::rich, light -> due.due("set(7, 40)", light.set(7, 40), -5));
        changesNothing(due, ErrorsTest::asNew, light -> due.due("set(7, 255)", light.set(7, 255), -5));
    }

    private static void refusedTexts(Due due) {
        beginRefused(due, 8);
        changesNothing(due, light -> light.typeOn("0,0+1x1=0;".repeat(6)), light -> {
            due.due("type(',')", light.type(','), -3);
            due.due("type('1')", light.type('1'), -3);
        });
        beginRefused(due, 10);
        changesNothing(due, light -> light.typeOn("1,2+3x4=5"), light ->
                due.due("fault()", light.fault(), -5));
        changesNothing(due, ErrorsTest::rich, light -> due.due("fault()", light.fault(), 12));
    }

    private static void refusedHistory(Due due) {
        beginRefused(due, 11);
        Seen.Calls undone = light -> {
            rich(light);
            for (int i = 0; i < 4; i++) {
                light.undo();
            }
        };
        changesNothing(due, undone, light -> due.due("undo()", light.undo(), -5));
        changesNothing(due, ErrorsTest::asNew, light -> due.due("undo()", light.undo(), -5));
        beginRefused(due, 13);
        changesNothing(due, ErrorsTest::asNew, light -> due.due("restore()", light.restore(), -5));
        changesNothing(due, light -> light.askAll("1,2+3x4=5"), light ->
                due.due("restore()", light.restore(), -5));
    }

    private static void refusedQuestions(Due due) {
        beginRefused(due, 14);
        inAnyState(due, light -> {
            due.due("spot(24, 0, 0)", light.spot(24, 0, 0), -1);
            due.due("spot(0, 0, 5)", light.spot(0, 0, 5), -2);
        });
        beginRefused(due, 15);
        inAnyState(due, light -> {
            due.due("zone(18, 0)", light.zone(18, 0), -1);
            due.due("zone(0, 9)", light.zone(0, 9), -2);
        });
        beginRefused(due, 16);
        inAnyState(due, light -> {
            due.due("count(21)", light.count(21), -2);
            due.due("count(-1)", light.count(-1), -2);
        });
        beginRefused(due, 19);
        inAnyState(due, light -> {
            due.due("ifRule(3, 0)", light.ifRule(3, 0), -2);
            due.due("ifRule(0, 4)", light.ifRule(0, 4), -2);
        });
        beginRefused(due, 21);
        inAnyState(due, light -> {
            due.due("leastStep(0)", light.leastStep(0), -2);
            due.due("leastStep(256)", light.leastStep(256), -2);
        });
        beginRefused(due, 22);
        inAnyState(due, light -> due.due("dearest(2)", light.dearest(2), -2));
        changesNothing(due, ErrorsTest::killAll, light -> due.due("dearest(0)", light.dearest(0), -5));
    }

    private static void askedQuestions(Due due) {
        beginAsked(due, 16);
        inAnyState(due, light -> {
            for (int what = 0; what <= 8; what++) {
                light.zone(7, what);
                light.spot(4, 4, Math.min(4, what));
            }
            light.meanShown();
        });
        beginAsked(due, 18);
        inAnyState(due, Light::restsIn);
        beginAsked(due, 19);
        inAnyState(due, light -> {
            for (int rule = 0; rule <= 2; rule++) {
                for (int what = 0; what <= 3; what++) {
                    light.ifRule(rule, what);
                }
            }
        });
        beginAsked(due, 20);
        inAnyState(due, Light::bestRule);
        beginAsked(due, 21);
        inAnyState(due, light -> light.leastStep(5));
        beginAsked(due, 22);
        inAnyState(due, light -> {
            light.dearest(0);
            light.dearest(1);
        });
    }
}
