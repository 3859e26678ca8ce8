/**
 * Zoned light behind a glass: a screen of 24 x 12 spots in 18 zones, the picture that is asked for,
 * the levels of the zones, and what is shown by all this.
 *
 * <p>All rows are made with the object and used again, so that no call makes an object.
 */
public final class ZonedLight {
    /** There is no such spot or zone. */
    public static final int UNKNOWN = -1;
    /** Another argument is out of range. */
    public static final int BAD_VALUE = -2;
    /** There is no more room. */
    public static final int FULL = -3;
    /** There is no such thing; not an error. */
    public static final int NONE = -5;

    private static final int WIDTH = 24;
    private static final int HEIGHT = 12;
    private static final int SPOTS = WIDTH * HEIGHT;
    private static final int SIDE = 4;
    private static final int ZONE_SPOTS = SIDE * SIDE;
    private static final int COLUMNS = WIDTH / SIDE;
    private static final int ZONES = SPOTS / ZONE_SPOTS;
    private static final int BRIGHTEST = 255;
    private static final int WHOLE_SHARE = 256;
    private static final int MOST_FRAMES = 99;
    private static final int MOST_STEP = 255;
    private static final int TEXT_ERROR = -100;

    private static final int OWN_SHARE = 0;
    private static final int NEAR_SHARE = 1;
    private static final int SHARES = 3;
    private static final int RULE = 3;
    private static final int ROUNDS = 4;
    private static final int LEAK = 5;
    private static final int HALO = 6;
    private static final int STEP = 7;
    private static final int SETTINGS = 8;
    private static final int[] FIRST_SETTING = {180, 9, 1, 0, 3, 4, 2, 255};
    private static final int[] LEAST_SETTING = {100, 0, 0, 0, 0, 0, 0, 1};
    private static final int[] GREATEST_SETTING = {256, 30, 9, 2, 9, 50, 20, 255};

    private static final int PEAKS = 0;
    private static final int PEAKS_AND_MEANS = 1;
    private static final int RULES = 3;

    private static final int AS_ASKED = 0;
    private static final int TOO_DARK = 1;
    private static final int TOO_BRIGHT = 2;

    /** Where, seen from a spot, its new brightness comes from, by the way of a move. */
    private static final int[] FROM_X = {1, -1, 0, 0};
    private static final int[] FROM_Y = {0, 0, 1, -1};
    private static final int WAYS = 4;

    private static final int COUNTED_SETTINGS = 13;

    private final Screen now = new Screen();
    private final Screen snapshot = new Screen();
    private boolean hasSnapshot = false;
    private final History history = new History();
    private final PictureText text = new PictureText();

    /** What would be is tried on this screen, so that the one that is stays as it is. */
    private final Screen trial = new Screen();
    private final Plan plan = new Plan();
    private final Tally tally = new Tally();
    private final int[] pictureBefore = new int[SPOTS];

    /** Creates a dark screen with a black picture. */
    public ZonedLight() {
    }

    // ---- pictures, zones

    /** Asks a brightness for a spot; answers the previous one. */
    public int ask(int x, int y, int bright) {
        if (!onScreen(x, y)) {
            return UNKNOWN;
        }
        if (bright < 0 || bright > BRIGHTEST) {
            return BAD_VALUE;
        }
        int index = spotAt(x, y);
        int previous = now.asked[index];
        if (previous == bright) {
            return NONE;
        }
        history.record(now);
        now.asked[index] = bright;
        return previous;
    }

    /** Asks the picture of the text; answers for how many spots that is another brightness. */
    public int askAll() {
        int faultAt = text.read();
        if (faultAt != NONE) {
            return TEXT_ERROR - faultAt;
        }
        history.record(now);
        rememberPicture();
        for (int part = 0; part < text.parts(); part++) {
            now.paint(text.number(part, 0), text.number(part, 1), text.number(part, 2),
                    text.number(part, 3), text.number(part, 4));
        }
        return changedSpots();
    }

    /** Moves the picture by one spot; answers for how many spots that is another brightness. */
    public int move(int way) {
        if (way < 0 || way >= WAYS) {
            return BAD_VALUE;
        }
        history.record(now);
        rememberPicture();
        now.takeShifted(pictureBefore, FROM_X[way], FROM_Y[way]);
        return changedSpots();
    }

    /** Lets a zone be dead, or live again; answers the level that it had. */
    public int kill(int zone, boolean dead) {
        if (!isZone(zone)) {
            return UNKNOWN;
        }
        if (now.dead[zone] == dead) {
            return NONE;
        }
        history.record(now);
        int previous = now.level[zone];
        now.dead[zone] = dead;
        now.level[zone] = 0;
        return previous;
    }

    /** Lets frames pass; answers the power of the last one. */
    public int pass(int frames) {
        if (frames < 1 || frames > MOST_FRAMES) {
            return BAD_VALUE;
        }
        history.record(now);
        plan.make(now);
        for (int frame = 0; frame < frames; frame++) {
            now.passFrame(plan.level);
        }
        return now.power();
    }

    /** Sets a setting; answers the previous one. */
    public int set(int which, int value) {
        if (which < 0 || which >= SETTINGS) {
            return BAD_VALUE;
        }
        if (value < LEAST_SETTING[which] || value > GREATEST_SETTING[which]) {
            return BAD_VALUE;
        }
        int previous = now.setting[which];
        if (previous == value) {
            return NONE;
        }
        history.record(now);
        now.setting[which] = value;
        return previous;
    }

    // ---- texts

    /** Appends a character to the text; answers the length then. */
    public int type(char character) {
        return text.append(character) ? text.length : FULL;
    }

    /** Empties the text; answers the length that it had. */
    public int clearText() {
        int previous = text.length;
        text.length = 0;
        return previous;
    }

    /** Tells the index of the fault of the text. */
    public int fault() {
        return text.read();
    }

    // ---- history

    /** Removes and restores the latest state of the history; answers how many are left. */
    public int undo() {
        return history.takeLatest(now) ? history.size : NONE;
    }

    /** Takes a snapshot of the state; answers the frames so far. */
    public int keep() {
        snapshot.copyFrom(now);
        hasSnapshot = true;
        return now.frames;
    }

    /** Restores the state of the snapshot; answers the frames so far then. */
    public int restore() {
        if (!hasSnapshot) {
            return NONE;
        }
        history.record(now);
        now.copyFrom(snapshot);
        return now.frames;
    }

    // ---- what is told

    /** Tells a number of a spot. */
    public int spot(int x, int y, int what) {
        if (!onScreen(x, y)) {
            return UNKNOWN;
        }
        if (what < 0 || what > 4) {
            return BAD_VALUE;
        }
        int asked = now.asked[spotAt(x, y)];
        int light = now.light(COLUMNS * (y / SIDE) + x / SIDE);
        switch (what) {
            case 0:
                return asked;
            case 1:
                return light;
            case 2:
                return glassFor(asked, light);
            case 3:
                return now.shown(asked, light);
            default:
                return verdict(asked, now.shown(asked, light));
        }
    }

    /** Tells a number of a zone. */
    public int zone(int zone, int what) {
        if (!isZone(zone)) {
            return UNKNOWN;
        }
        switch (what) {
            case 0:
                return now.level[zone];
            case 1:
                plan.make(now);
                return plan.level[zone];
            case 2:
                return now.light(zone);
            case 3:
                return now.dead[zone] ? 1 : 0;
            case 4:
                return now.peak(zone);
            case 5:
                return now.mean(zone);
            case 6:
                return now.leakOf(now.light(zone));
            case 7:
                tally.takeZone(now, zone);
                return tally.tooDark;
            case 8:
                tally.takeZone(now, zone);
                return tally.tooBright;
            default:
                return BAD_VALUE;
        }
    }

    /** Tells a number of the whole. */
    public int count(int what) {
        if (what < 0 || what >= COUNTED_SETTINGS + SETTINGS) {
            return BAD_VALUE;
        }
        if (what >= COUNTED_SETTINGS) {
            return now.setting[what - COUNTED_SETTINGS];
        }
        switch (what) {
            case 0:
                return now.frames;
            case 1:
                return now.power();
            case 2:
                return now.flicker;
            case 3:
                return now.powerSoFar;
            case 9:
                return now.deadZones();
            case 10:
                return greatestGap() == 0 ? 1 : 0;
            case 11:
                return history.size;
            case 12:
                return text.length;
            default:
                return countSpots(what);
        }
    }

    /** Tells the mean brightness that is shown. */
    public double meanShown() {
        tally.takeAll(now);
        return (double) tally.shown / 288.0;
    }

    // ---- what would be

    /** Tells in how many frames all rests. */
    public int restsIn() {
        return roundedUp(greatestGap(), now.setting[STEP]);
    }

    /** Tells what would be when all rests, with another rule. */
    public int ifRule(int rule, int what) {
        if (rule < 0 || rule >= RULES || what < 0 || what > 3) {
            return BAD_VALUE;
        }
        trial.copyFrom(now);
        trial.setting[RULE] = rule;
        settleTrial();
        switch (what) {
            case 0:
                return trial.power();
            case 1:
                return tally.off;
            case 2:
                return tally.tooDark;
            default:
                return tally.tooBright;
        }
    }

    /** Finds the rule with which spots are off the least when all rests. */
    public int bestRule() {
        int best = 0;
        int leastOff = 0;
        int leastPower = 0;
        for (int rule = 0; rule < RULES; rule++) {
            trial.copyFrom(now);
            trial.setting[RULE] = rule;
            settleTrial();
            int power = trial.power();
            boolean better = tally.off < leastOff || (tally.off == leastOff && power < leastPower);
            if (rule == 0 || better) {
                best = rule;
                leastOff = tally.off;
                leastPower = power;
            }
        }
        return best;
    }

    /** Finds the least step with which all rests within some frames. */
    public int leastStep(int frames) {
        if (frames < 1 || frames > MOST_STEP) {
            return BAD_VALUE;
        }
        return roundedUp(greatestGap(), frames);
    }

    /** Finds the zone whose death would put spots off the most when all rests. */
    public int dearest(int what) {
        if (what < 0 || what > 1) {
            return BAD_VALUE;
        }
        int dearest = NONE;
        int mostOff = NONE;
        for (int zone = 0; zone < ZONES; zone++) {
            if (!now.dead[zone]) {
                trial.copyFrom(now);
                trial.dead[zone] = true;
                settleTrial();
                if (tally.off > mostOff) {
                    dearest = zone;
                    mostOff = tally.off;
                }
            }
        }
        return what == 0 ? dearest : mostOff;
    }

    private void rememberPicture() {
        System.arraycopy(now.asked, 0, pictureBefore, 0, SPOTS);
    }

    private int changedSpots() {
        int changed = 0;
        for (int index = 0; index < SPOTS; index++) {
            if (now.asked[index] != pictureBefore[index]) {
                changed++;
            }
        }
        return changed;
    }

    private int countSpots(int what) {
        tally.takeAll(now);
        switch (what) {
            case 4:
                return SPOTS - tally.tooDark - tally.tooBright;
            case 5:
                return tally.tooDark;
            case 6:
                return tally.tooBright;
            case 7:
                return tally.off;
            default:
                return tally.greatestOff;
        }
    }

    /** How far the level that is farthest from its wanted one has to go. */
    private int greatestGap() {
        plan.make(now);
        int greatest = 0;
        for (int zone = 0; zone < ZONES; zone++) {
            greatest = Math.max(greatest, Math.abs(plan.level[zone] - now.level[zone]));
        }
        return greatest;
    }

    /** Lets all rest on the screen of trial, and adds up what it shows then. */
    private void settleTrial() {
        plan.make(trial);
        System.arraycopy(plan.level, 0, trial.level, 0, ZONES);
        tally.takeAll(trial);
    }

    private static boolean onScreen(int x, int y) {
        return x >= 0 && x < WIDTH && y >= 0 && y < HEIGHT;
    }

    private static boolean isZone(int zone) {
        return zone >= 0 && zone < ZONES;
    }

    private static int spotAt(int x, int y) {
        return y * WIDTH + x;
    }

    /** The index of one of the 16 spots of a zone, row by row. */
    private static int spotOfZone(int zone, int which) {
        int x = zone % COLUMNS * SIDE + which % SIDE;
        int y = zone / COLUMNS * SIDE + which / SIDE;
        return spotAt(x, y);
    }

    private static int zonesApart(int zone, int other) {
        int columns = Math.abs(zone % COLUMNS - other % COLUMNS);
        int rows = Math.abs(zone / COLUMNS - other / COLUMNS);
        return Math.max(columns, rows);
    }

    /** A quotient of numbers that are not negative, rounded up; 0 where there is no divisor. */
    private static int roundedUp(int dividend, int divisor) {
        return divisor > 0 ? (dividend + divisor - 1) / divisor : 0;
    }

    /** The light of a zone from the sum of levels times shares. */
    private static int lightOf(int glow) {
        return Math.min(BRIGHTEST, glow / WHOLE_SHARE);
    }

    private static int glassFor(int asked, int light) {
        return Math.min(BRIGHTEST, roundedUp(asked * BRIGHTEST, light));
    }

    private static int verdict(int asked, int shown) {
        if (shown == asked) {
            return AS_ASKED;
        }
        return shown < asked ? TOO_DARK : TOO_BRIGHT;
    }

    /** A state: the picture, the zones, the settings and what the frames added up to. */
    private static final class Screen {
        final int[] asked = new int[SPOTS];
        final int[] level = new int[ZONES];
        final boolean[] dead = new boolean[ZONES];
        final int[] setting = new int[SETTINGS];
        int frames = 0;
        int flicker = 0;
        int powerSoFar = 0;

        Screen() {
            System.arraycopy(FIRST_SETTING, 0, setting, 0, SETTINGS);
        }

        void copyFrom(Screen other) {
            System.arraycopy(other.asked, 0, asked, 0, SPOTS);
            System.arraycopy(other.level, 0, level, 0, ZONES);
            System.arraycopy(other.setting, 0, setting, 0, SETTINGS);
            for (int zone = 0; zone < ZONES; zone++) {
                dead[zone] = other.dead[zone];
            }
            frames = other.frames;
            flicker = other.flicker;
            powerSoFar = other.powerSoFar;
        }

        /** Asks a brightness for those spots of a rectangle that are on the screen. */
        void paint(int left, int top, int wide, int high, int bright) {
            int right = Math.min(WIDTH, left + wide);
            int bottom = Math.min(HEIGHT, top + high);
            for (int y = Math.max(0, top); y < bottom; y++) {
                for (int x = Math.max(0, left); x < right; x++) {
                    asked[spotAt(x, y)] = bright;
                }
            }
        }

        void takeShifted(int[] picture, int fromX, int fromY) {
            for (int y = 0; y < HEIGHT; y++) {
                for (int x = 0; x < WIDTH; x++) {
                    boolean inside = onScreen(x + fromX, y + fromY);
                    asked[spotAt(x, y)] = inside ? picture[spotAt(x + fromX, y + fromY)] : 0;
                }
            }
        }

        int peak(int zone) {
            int peak = 0;
            for (int which = 0; which < ZONE_SPOTS; which++) {
                peak = Math.max(peak, asked[spotOfZone(zone, which)]);
            }
            return peak;
        }

        int mean(int zone) {
            int sum = 0;
            for (int which = 0; which < ZONE_SPOTS; which++) {
                sum += asked[spotOfZone(zone, which)];
            }
            return sum / ZONE_SPOTS;
        }

        boolean asksBlack(int zone) {
            for (int which = 0; which < ZONE_SPOTS; which++) {
                if (asked[spotOfZone(zone, which)] == 0) {
                    return true;
                }
            }
            return false;
        }

        /** The sum over all zones of their level times their share in the light of this one. */
        int glow(int zone, int[] levels) {
            int sum = 0;
            for (int other = 0; other < ZONES; other++) {
                int apart = zonesApart(zone, other);
                if (apart < SHARES) {
                    sum += levels[other] * setting[apart];
                }
            }
            return sum;
        }

        int light(int zone) {
            return lightOf(glow(zone, level));
        }

        int leakOf(int light) {
            return light * setting[LEAK] / 1000;
        }

        int shown(int asked, int light) {
            return Math.max(light * glassFor(asked, light) / BRIGHTEST, leakOf(light));
        }

        int power() {
            int sum = 0;
            for (int zone = 0; zone < ZONES; zone++) {
                sum += level[zone];
            }
            return sum;
        }

        int deadZones() {
            int sum = 0;
            for (int zone = 0; zone < ZONES; zone++) {
                if (dead[zone]) {
                    sum++;
                }
            }
            return sum;
        }

        void passFrame(int[] wanted) {
            for (int zone = 0; zone < ZONES; zone++) {
                if (!dead[zone]) {
                    int gap = wanted[zone] - level[zone];
                    int change = Math.max(-setting[STEP], Math.min(setting[STEP], gap));
                    level[zone] += change;
                    flicker += Math.abs(change);
                }
            }
            frames++;
            powerSoFar += power();
        }
    }

    /** Finds the levels that are wanted for a screen. */
    private static final class Plan {
        final int[] level = new int[ZONES];
        private final int[] peak = new int[ZONES];

        void make(Screen screen) {
            for (int zone = 0; zone < ZONES; zone++) {
                peak[zone] = screen.peak(zone);
                level[zone] = screen.dead[zone] ? 0 : levelByRule(screen, zone);
            }
            for (int round = 0; round < screen.setting[ROUNDS]; round++) {
                raiseAll(screen);
            }
            for (int zone = 0; zone < ZONES; zone++) {
                if (screen.asksBlack(zone)) {
                    lowerForBlack(screen, zone);
                }
            }
        }

        private int levelByRule(Screen screen, int zone) {
            int own = screen.setting[OWN_SHARE];
            int scaled = aim(screen, zone) * WHOLE_SHARE;
            return own > 0 ? Math.min(BRIGHTEST, scaled / own) : 0;
        }

        private int aim(Screen screen, int zone) {
            switch (screen.setting[RULE]) {
                case PEAKS:
                    return peak[zone];
                case PEAKS_AND_MEANS:
                    return (peak[zone] + screen.mean(zone)) / 2;
                default:
                    return screen.mean(zone);
            }
        }

        private void raiseAll(Screen screen) {
            for (int zone = 0; zone < ZONES; zone++) {
                int lack = Math.max(0, peak[zone] - lightOf(screen.glow(zone, level)));
                if (screen.dead[zone]) {
                    raiseNeighbours(screen, zone, lack);
                } else {
                    raise(zone, roundedUp(lack * WHOLE_SHARE, screen.setting[OWN_SHARE]));
                }
            }
        }

        private void raiseNeighbours(Screen screen, int zone, int lack) {
            int helpers = 0;
            for (int other = 0; other < ZONES; other++) {
                if (helps(screen, zone, other)) {
                    helpers++;
                }
            }
            int by = roundedUp(lack * WHOLE_SHARE, screen.setting[NEAR_SHARE] * helpers);
            for (int other = 0; other < ZONES; other++) {
                if (helps(screen, zone, other)) {
                    raise(other, by);
                }
            }
        }

        private static boolean helps(Screen screen, int zone, int other) {
            return !screen.dead[other] && zonesApart(zone, other) == 1;
        }

        private void raise(int zone, int by) {
            level[zone] = Math.min(BRIGHTEST, level[zone] + by);
        }

        private void lowerForBlack(Screen screen, int zone) {
            int glow = screen.glow(zone, level);
            while (level[zone] > 0 && screen.leakOf(lightOf(glow)) > screen.setting[HALO]) {
                level[zone]--;
                // of all that makes the light only the zone's own part changes
                glow -= screen.setting[OWN_SHARE];
            }
        }
    }

    /** Adds up what spots show and how far that is from what is asked. */
    private static final class Tally {
        int tooDark = 0;
        int tooBright = 0;
        int off = 0;
        int greatestOff = 0;
        int shown = 0;

        void takeAll(Screen screen) {
            clear();
            for (int zone = 0; zone < ZONES; zone++) {
                addZone(screen, zone);
            }
        }

        void takeZone(Screen screen, int zone) {
            clear();
            addZone(screen, zone);
        }

        private void clear() {
            tooDark = 0;
            tooBright = 0;
            off = 0;
            greatestOff = 0;
            shown = 0;
        }

        private void addZone(Screen screen, int zone) {
            int light = screen.light(zone);
            for (int which = 0; which < ZONE_SPOTS; which++) {
                int asked = screen.asked[spotOfZone(zone, which)];
                addSpot(asked, screen.shown(asked, light));
            }
        }

        private void addSpot(int asked, int shownThere) {
            int verdict = verdict(asked, shownThere);
            if (verdict == TOO_DARK) {
                tooDark++;
            } else if (verdict == TOO_BRIGHT) {
                tooBright++;
            }
            int offThere = Math.abs(shownThere - asked);
            off += offThere;
            greatestOff = Math.max(greatestOff, offThere);
            shown += shownThere;
        }
    }

    /** The latest states, in a ring whose screens are used again. */
    private static final class History {
        private static final int LIMIT = 4;

        private final Screen[] ring = new Screen[LIMIT];
        private int oldest = 0;
        int size = 0;

        History() {
            for (int place = 0; place < LIMIT; place++) {
                ring[place] = new Screen();
            }
        }

        void record(Screen screen) {
            if (size == LIMIT) {
                oldest = (oldest + 1) % LIMIT;
                size--;
            }
            ring[(oldest + size) % LIMIT].copyFrom(screen);
            size++;
        }

        boolean takeLatest(Screen screen) {
            if (size == 0) {
                return false;
            }
            size--;
            screen.copyFrom(ring[(oldest + size) % LIMIT]);
            return true;
        }
    }

    /** The text of a picture: its characters, and the numbers of its parts once it is read. */
    private static final class PictureText {
        private static final int LIMIT = 60;
        private static final int FIELDS = 5;
        private static final int SHORTEST_PART = 10;
        private static final int MOST_PARTS = (LIMIT + 1) / SHORTEST_PART;
        private static final int NO_NUMBER = -1;

        /** By field: x, y, width, height, brightness. */
        private static final int[] LEAST = {0, 0, 1, 1, 0};
        private static final int[] GREATEST = {23, 11, 24, 12, 255};
        private static final char[] END = {',', '+', 'x', '=', ';'};

        private final char[] characters = new char[LIMIT];
        int length = 0;
        private final int[] numbers = new int[MOST_PARTS * FIELDS];
        private int numbersRead = 0;

        boolean append(char character) {
            if (length >= LIMIT) {
                return false;
            }
            characters[length] = character;
            length++;
            return true;
        }

        /** Reads the numbers of all parts; answers the index of the fault, NONE if there is none. */
        int read() {
            numbersRead = 0;
            int field = 0;
            int number = NO_NUMBER;
            for (int index = 0; index < length; index++) {
                char character = characters[index];
                if (number != NO_NUMBER && character == END[field]) {
                    addNumber(number);
                    field = (field + 1) % FIELDS;
                    number = NO_NUMBER;
                } else {
                    number = withDigit(number, character, field);
                    if (number == NO_NUMBER) {
                        return index;
                    }
                }
            }
            if (field != FIELDS - 1 || number == NO_NUMBER) {
                return length;
            }
            addNumber(number);
            return NONE;
        }

        int parts() {
            return numbersRead / FIELDS;
        }

        int number(int part, int field) {
            return numbers[part * FIELDS + field];
        }

        private void addNumber(int number) {
            if (numbersRead < numbers.length) {
                numbers[numbersRead] = number;
                numbersRead++;
            }
        }

        /** The number with one more digit; NO_NUMBER if the character is not allowed there. */
        private static int withDigit(int number, char character, int field) {
            boolean isDigit = character >= '0' && character <= '9';
            if (!isDigit || number == 0) {
                return NO_NUMBER;
            }
            int digit = character - '0';
            int longer = number == NO_NUMBER ? digit : 10 * number + digit;
            return longer < LEAST[field] || longer > GREATEST[field] ? NO_NUMBER : longer;
        }
    }
}
