import java.util.Random;

/** All promises: compares the class with the plain model in long runs of drawn calls. */
final class ModelTest {
    private static final int RUNS = 250;
    private static final int LONGEST_TEXT = 64;
    /** A step that types a text takes the most calls. */
    private static final int CALLS_OF_STEP = LONGEST_TEXT + 3;
    private static final String SIGNS = "0123456789,+x=;";
    private static final String[] TEXTS = {
        "0,0+24x12=255", "0,0+24x12=0", "3,2+9x7=120;8,4+4x4=0;9,5+1x1=255", "23,11+24x12=40",
        "0,0+6x12=30;6,0+6x12=90;12,0+6x12=160;18,0+6x12=254", "5,5+2x2=7", "0,0+24x12=1;1,1+3x1=2",
        "4,4+4x4=200;5,5+1x1=0", "0,0+24x1=255;0,4+24x1=200;0,8+24x1=3", "2,2+20x8=99;3,3+18x6=180"
    };

    private final Random random;
    private final Light light = new Light();
    private final PlainModel model = new PlainModel();

    private ModelTest(long seed) {
        random = new Random(seed);
    }

    public static void main(String[] args) {
        Due due = new Due();
        for (int seed = 1; seed <= RUNS; seed++) {
            ModelTest run = new ModelTest(seed);
            for (int step = 1; run.light.callsLeft() >= CALLS_OF_STEP; step++) {
                run.step(due, "seed " + seed + ", step " + step + ": ");
            }
        }
        due.close("ModelTest");
    }

    /** A number from low to high, and now and then one a little or far outside. */
    private int from(int low, int high) {
        int luck = random.nextInt(60);
        if (luck == 0) {
            return low - 1;
        }
        if (luck == 1) {
            return high + 1;
        }
        if (luck == 2) {
            return random.nextInt();
        }
        return low + random.nextInt(high - low + 1);
    }

    private int extremeOr(int low, int high) {
        int luck = random.nextInt(4);
        return luck == 0 ? low : luck == 1 ? high : from(low, high);
    }

    private void step(Due due, String where) {
        int luck = random.nextInt(100);
        if (luck < 45) {
            change(due, where);
        } else if (luck < 55) {
            text(due, where);
        } else {
            tell(due, where);
        }
    }

    private void change(Due due, String where) {
        switch (random.nextInt(9)) {
            case 0:
            case 1: {
                int x = from(0, 23);
                int y = from(0, 11);
                int bright = extremeOr(0, 255);
                due.due(where + "ask", light.ask(x, y, bright), model.ask(x, y, bright));
                break;
            }
            case 2: {
                int way = from(0, 3);
                due.due(where + "move", light.move(way), model.move(way));
                break;
            }
            case 3: {
                int zone = from(0, 17);
                boolean dead = random.nextInt(5) < 3;
                due.due(where + "kill", light.kill(zone, dead), model.kill(zone, dead));
                break;
            }
            case 4: {
                int frames = random.nextBoolean() ? from(1, 3) : from(1, 99);
                due.due(where + "pass", light.pass(frames), model.pass(frames));
                break;
            }
            case 5: {
                int which = from(0, 7);
                int[] low = {100, 0, 0, 0, 0, 0, 0, 1};
                int[] high = {256, 30, 9, 2, 9, 50, 20, 255};
                int of = which < 0 || which > 7 ? 0 : which;
                int value = extremeOr(low[of], high[of]);
                due.due(where + "set " + which, light.set(which, value), model.set(which, value));
                break;
            }
            case 6:
                due.due(where + "undo", light.undo(), model.undo());
                break;
            case 7:
                if (random.nextInt(3) == 0) {
                    due.due(where + "keep", light.keep(), model.keep());
                } else {
                    due.due(where + "restore", light.restore(), model.restore());
                }
                break;
            default:
                due.due(where + "askAll", light.askAll(), model.askAll());
                break;
        }
    }

    private void text(Due due, String where) {
        int luck = random.nextInt(4);
        if (luck > 0) {
            due.due(where + "clearText", light.clearText(), model.clearText());
        }
        String text = luck == 3 ? drawn() : TEXTS[random.nextInt(TEXTS.length)];
        if (random.nextInt(4) == 0) {
            int at = random.nextInt(text.length());
            text = text.substring(0, at) + SIGNS.charAt(random.nextInt(15)) + text.substring(at + 1);
        }
        for (int i = 0; i < Math.min(LONGEST_TEXT, text.length()); i++) {
            char sign = text.charAt(i);
            due.due(where + "type", light.type(sign), model.type(sign));
        }
        due.due(where + "fault", light.fault(), model.fault());
        due.due(where + "askAll", light.askAll(), model.askAll());
    }

    private String drawn() {
        StringBuilder text = new StringBuilder();
        int parts = 1 + random.nextInt(4);
        for (int part = 0; part < parts; part++) {
            text.append(part == 0 ? "" : ";").append(from(0, 23)).append(',').append(from(0, 11));
            text.append('+').append(from(1, 24)).append('x').append(from(1, 12));
            text.append('=').append(extremeOr(0, 255));
        }
        return text.toString();
    }

    private void tell(Due due, String where) {
        switch (random.nextInt(9)) {
            case 0:
            case 1: {
                int x = from(0, 23);
                int y = from(0, 11);
                int what = from(0, 4);
                due.due(where + "spot", light.spot(x, y, what), model.spot(x, y, what));
                break;
            }
            case 2:
            case 3: {
                int zone = from(0, 17);
                int what = from(0, 8);
                due.due(where + "zone " + what, light.zone(zone, what), model.zone(zone, what));
                break;
            }
            case 4: {
                int what = from(0, 20);
                due.due(where + "count " + what, light.count(what), model.count(what));
                break;
            }
            case 5:
                due.due(where + "meanShown", light.meanShown(), model.meanShown());
                due.due(where + "restsIn", light.restsIn(), model.restsIn());
                break;
            case 6: {
                int rule = from(0, 2);
                int what = from(0, 3);
                due.due(where + "ifRule", light.ifRule(rule, what), model.ifRule(rule, what));
                due.due(where + "bestRule", light.bestRule(), model.bestRule());
                break;
            }
            case 7: {
                int frames = extremeOr(1, 255);
                due.due(where + "leastStep", light.leastStep(frames), model.leastStep(frames));
                break;
            }
            default: {
                int what = from(0, 1);
                due.due(where + "dearest", light.dearest(what), model.dearest(what));
                break;
            }
        }
    }
}
