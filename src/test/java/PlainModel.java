import java.util.ArrayList;
import java.util.List;
import java.util.regex.Matcher;
import java.util.regex.Pattern;

/**
 * The document once more, for comparison only: slow, by trying and by simulation, and with the
 * Java library, so that it shares no line of thought with the class where that can be helped.
 */
final class PlainModel {
    private static final int[][] RANGE = {
        {100, 256}, {0, 30}, {0, 9}, {0, 2}, {0, 9}, {0, 50}, {0, 20}, {1, 255}
    };
    private static final String X = "(0|1\\d?|2[0-3]?|[3-9])";
    private static final String Y = "(0|1[01]?|[2-9])";
    private static final String WIDE = "(1\\d?|2[0-4]?|[3-9])";
    private static final String HIGH = "(1[0-2]?|[2-9])";
    private static final String BRIGHT = "(0|1\\d?\\d?|2(?:[0-4]\\d?|5[0-5]?|[6-9])?|[3-9]\\d?)";
    private static final String PART = X + "," + Y + "\\+" + WIDE + "x" + HIGH + "=" + BRIGHT;
    private static final Pattern ONE = Pattern.compile(PART);
    private static final Pattern WHOLE = Pattern.compile(PART + "(?:;" + PART + ")*");

    private static final class State {
        int[][] asked = new int[24][12];
        int[] level = new int[18];
        boolean[] dead = new boolean[18];
        int[] setting = {180, 9, 1, 0, 3, 4, 2, 255};
        long frames;
        long flicker;
        long energy;

        State copy() {
            State other = new State();
            for (int x = 0; x < 24; x++) {
                other.asked[x] = asked[x].clone();
            }
            other.level = level.clone();
            other.dead = dead.clone();
            other.setting = setting.clone();
            other.frames = frames;
            other.flicker = flicker;
            other.energy = energy;
            return other;
        }

        List<Integer> askedIn(int zone) {
            List<Integer> all = new ArrayList<>();
            for (int x = 0; x < 24; x++) {
                for (int y = 0; y < 12; y++) {
                    if (6 * (y / 4) + x / 4 == zone) {
                        all.add(asked[x][y]);
                    }
                }
            }
            return all;
        }

        int peak(int zone) {
            return askedIn(zone).stream().mapToInt(Integer::intValue).max().getAsInt();
        }

        int mean(int zone) {
            return askedIn(zone).stream().mapToInt(Integer::intValue).sum() / 16;
        }

        int light(int zone, int[] levels) {
            int sum = 0;
            for (int other = 0; other < 18; other++) {
                int apart = apart(zone, other);
                sum += apart == 0 ? levels[other] * setting[0]
                        : apart == 1 ? levels[other] * setting[1]
                        : apart == 2 ? levels[other] * setting[2] : 0;
            }
            return Math.min(255, sum / 256);
        }

        int leak(int light) {
            return light * setting[5] / 1000;
        }

        int glass(int asked, int light) {
            if (light == 0) {
                return 0;
            }
            return (int) Math.min(255, Math.ceil(asked * 255.0 / light));
        }

        int shown(int x, int y) {
            int light = light(6 * (y / 4) + x / 4, level);
            int through = light * glass(asked[x][y], light) / 255;
            return leak(light) > through ? leak(light) : through;
        }

        int[] wanted() {
            int[] want = new int[18];
            for (int zone = 0; zone < 18; zone++) {
                if (!dead[zone]) {
                    int by = setting[3] == 0 ? peak(zone)
                            : setting[3] == 1 ? (peak(zone) + mean(zone)) / 2 : mean(zone);
                    want[zone] = Math.min(255, by * 256 / setting[0]);
                }
            }
            for (int round = 1; round <= setting[4]; round++) {
                for (int zone = 0; zone < 18; zone++) {
                    raise(want, zone);
                }
            }
            for (int zone = 0; zone < 18; zone++) {
                while (askedIn(zone).contains(0) && want[zone] > 0
                        && leak(light(zone, want)) > setting[6]) {
                    want[zone] = want[zone] - 1;
                }
            }
            return want;
        }

        void raise(int[] want, int zone) {
            int lack = peak(zone) - light(zone, want);
            if (lack <= 0) {
                return;
            }
            if (!dead[zone]) {
                want[zone] = (int) Math.min(255, want[zone] + Math.ceil(lack * 256.0 / setting[0]));
                return;
            }
            List<Integer> helpers = new ArrayList<>();
            for (int other = 0; other < 18; other++) {
                if (apart(zone, other) == 1 && !dead[other]) {
                    helpers.add(other);
                }
            }
            if (setting[1] == 0) {
                return;
            }
            for (int other : helpers) {
                double more = Math.ceil(lack * 256.0 / (setting[1] * helpers.size()));
                want[other] = (int) Math.min(255, want[other] + more);
            }
        }

        void frame(int[] want) {
            for (int zone = 0; zone < 18; zone++) {
                if (!dead[zone]) {
                    for (int i = 0; i < setting[7] && level[zone] != want[zone]; i++) {
                        level[zone] += level[zone] < want[zone] ? 1 : -1;
                        flicker++;
                    }
                }
            }
            frames++;
            energy += power();
        }

        long power() {
            long sum = 0;
            for (int one : level) {
                sum += one;
            }
            return sum;
        }

        boolean rests() {
            return java.util.Arrays.equals(level, wanted());
        }

        State rested() {
            State other = copy();
            other.level = wanted();
            return other;
        }

        long spots(int what) {
            long asDue = 0;
            long dark = 0;
            long bright = 0;
            long off = 0;
            long greatest = 0;
            for (int x = 0; x < 24; x++) {
                for (int y = 0; y < 12; y++) {
                    int by = shown(x, y) - asked[x][y];
                    asDue += by == 0 ? 1 : 0;
                    dark += by < 0 ? 1 : 0;
                    bright += by > 0 ? 1 : 0;
                    off += Math.abs(by);
                    greatest = Math.max(greatest, Math.abs(by));
                }
            }
            return new long[] {asDue, dark, bright, off, greatest}[what - 4];
        }
    }

    private State now = new State();
    private State snapshot;
    private final List<State> history = new ArrayList<>();
    private String text = "";

    static int apart(int zone, int other) {
        return Math.max(Math.abs(zone % 6 - other % 6), Math.abs(zone / 6 - other / 6));
    }

    private void record() {
        history.add(now.copy());
        if (history.size() > 4) {
            history.remove(0);
        }
    }

    private static boolean spotKnown(int x, int y) {
        return 0 <= x && x <= 23 && 0 <= y && y <= 11;
    }

    long ask(int x, int y, int bright) {
        if (!spotKnown(x, y)) {
            return -1;
        }
        if (bright < 0 || bright > 255) {
            return -2;
        }
        int old = now.asked[x][y];
        if (old == bright) {
            return -5;
        }
        record();
        now.asked[x][y] = bright;
        return old;
    }

    private long changedSinceRecord() {
        State before = history.get(history.size() - 1);
        long changed = 0;
        for (int x = 0; x < 24; x++) {
            for (int y = 0; y < 12; y++) {
                changed += before.asked[x][y] != now.asked[x][y] ? 1 : 0;
            }
        }
        return changed;
    }

    long askAll() {
        long fault = fault();
        if (fault != -5) {
            return -100 - fault;
        }
        record();
        for (String part : text.split(";")) {
            Matcher found = ONE.matcher(part);
            if (!found.matches()) {
                throw new IllegalStateException(part);
            }
            int x0 = Integer.parseInt(found.group(1));
            int y0 = Integer.parseInt(found.group(2));
            for (int x = x0; x < x0 + Integer.parseInt(found.group(3)); x++) {
                for (int y = y0; y < y0 + Integer.parseInt(found.group(4)); y++) {
                    if (spotKnown(x, y)) {
                        now.asked[x][y] = Integer.parseInt(found.group(5));
                    }
                }
            }
        }
        return changedSinceRecord();
    }

    long move(int way) {
        if (way < 0 || way > 3) {
            return -2;
        }
        record();
        int[][] old = now.copy().asked;
        now.asked = new int[24][12];
        for (int x = 0; x < 24; x++) {
            for (int y = 0; y < 12; y++) {
                int toX = way == 0 ? x - 1 : way == 1 ? x + 1 : x;
                int toY = way == 2 ? y - 1 : way == 3 ? y + 1 : y;
                if (spotKnown(toX, toY)) {
                    now.asked[toX][toY] = old[x][y];
                }
            }
        }
        return changedSinceRecord();
    }

    long kill(int zone, boolean dead) {
        if (zone < 0 || zone > 17) {
            return -1;
        }
        if (now.dead[zone] == dead) {
            return -5;
        }
        record();
        int old = now.level[zone];
        now.dead[zone] = dead;
        now.level[zone] = 0;
        return old;
    }

    long pass(int frames) {
        if (frames < 1 || frames > 99) {
            return -2;
        }
        record();
        for (int i = 0; i < frames; i++) {
            now.frame(now.wanted());
        }
        return now.power();
    }

    long set(int which, int value) {
        if (which < 0 || which > 7 || value < RANGE[which][0] || value > RANGE[which][1]) {
            return -2;
        }
        int old = now.setting[which];
        if (old == value) {
            return -5;
        }
        record();
        now.setting[which] = value;
        return old;
    }

    long type(char character) {
        if (text.length() == 60) {
            return -3;
        }
        text += character;
        return text.length();
    }

    long clearText() {
        int old = text.length();
        text = "";
        return old;
    }

    /** A character is allowed if the text up to it is a picture or could still become one. */
    long fault() {
        for (int i = 0; i < text.length(); i++) {
            Matcher found = WHOLE.matcher(text.substring(0, i + 1));
            if (!found.matches() && !found.hitEnd()) {
                return i;
            }
        }
        return WHOLE.matcher(text).matches() ? -5 : text.length();
    }

    long undo() {
        if (history.isEmpty()) {
            return -5;
        }
        now = history.remove(history.size() - 1);
        return history.size();
    }

    long keep() {
        snapshot = now.copy();
        return now.frames;
    }

    long restore() {
        if (snapshot == null) {
            return -5;
        }
        record();
        now = snapshot.copy();
        return now.frames;
    }

    long spot(int x, int y, int what) {
        if (!spotKnown(x, y)) {
            return -1;
        }
        if (what < 0 || what > 4) {
            return -2;
        }
        int light = now.light(6 * (y / 4) + x / 4, now.level);
        int asked = now.asked[x][y];
        int shown = now.shown(x, y);
        return new int[] {
            asked, light, now.glass(asked, light), shown, shown == asked ? 0 : shown < asked ? 1 : 2
        }[what];
    }

    long zone(int zone, int what) {
        if (zone < 0 || zone > 17) {
            return -1;
        }
        if (what < 0 || what > 8) {
            return -2;
        }
        int light = now.light(zone, now.level);
        int dark = 0;
        int bright = 0;
        for (int x = 0; x < 24; x++) {
            for (int y = 0; y < 12; y++) {
                if (6 * (y / 4) + x / 4 == zone) {
                    dark += spot(x, y, 4) == 1 ? 1 : 0;
                    bright += spot(x, y, 4) == 2 ? 1 : 0;
                }
            }
        }
        return new int[] {
            now.level[zone], now.wanted()[zone], light, now.dead[zone] ? 1 : 0,
            now.peak(zone), now.mean(zone), now.leak(light), dark, bright
        }[what];
    }

    long count(int what) {
        if (what < 0 || what > 20) {
            return -2;
        }
        if (what >= 13) {
            return now.setting[what - 13];
        }
        if (what >= 4 && what <= 8) {
            return now.spots(what);
        }
        int dead = 0;
        for (boolean one : now.dead) {
            dead += one ? 1 : 0;
        }
        return new long[] {
            now.frames, now.power(), now.flicker, now.energy, 0, 0, 0, 0, 0, dead,
            now.rests() ? 1 : 0, history.size(), text.length()
        }[what];
    }

    double meanShown() {
        double sum = 0;
        for (int x = 0; x < 24; x++) {
            for (int y = 0; y < 12; y++) {
                sum += now.shown(x, y);
            }
        }
        return sum / 288.0;
    }

    private static int framesTillRest(State start) {
        State then = start.copy();
        int[] want = then.wanted();
        int frames = 0;
        while (!java.util.Arrays.equals(then.level, want)) {
            then.frame(want);
            frames++;
        }
        return frames;
    }

    long restsIn() {
        return framesTillRest(now);
    }

    private State withRule(int rule) {
        State other = now.copy();
        other.setting[3] = rule;
        return other.rested();
    }

    long ifRule(int rule, int what) {
        if (rule < 0 || rule > 2 || what < 0 || what > 3) {
            return -2;
        }
        State then = withRule(rule);
        return what == 0 ? then.power() : then.spots(what == 1 ? 7 : what == 2 ? 5 : 6);
    }

    long bestRule() {
        long best = 0;
        long bestWorth = Long.MAX_VALUE;
        for (int rule = 2; rule >= 0; rule--) {
            State then = withRule(rule);
            long worth = then.spots(7) * 100_000 + then.power();
            if (worth <= bestWorth) {
                best = rule;
                bestWorth = worth;
            }
        }
        return best;
    }

    long leastStep(int frames) {
        if (frames < 1 || frames > 255) {
            return -2;
        }
        if (now.rests()) {
            return 0;
        }
        State then = now.copy();
        for (int step = 1; step <= 255; step++) {
            then.setting[7] = step;
            if (framesTillRest(then) <= frames) {
                return step;
            }
        }
        throw new IllegalStateException();
    }

    long dearest(int what) {
        if (what < 0 || what > 1) {
            return -2;
        }
        long dearest = -5;
        long most = -5;
        for (int zone = 17; zone >= 0; zone--) {
            if (!now.dead[zone]) {
                State then = now.copy();
                then.dead[zone] = true;
                long off = then.rested().spots(7);
                if (off >= most) {
                    dearest = zone;
                    most = off;
                }
            }
        }
        return what == 0 ? dearest : most;
    }
}
