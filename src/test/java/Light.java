/**
 * A ZonedLight that counts its calls: the document leaves free what is answered after the 512th, so that
 * a test that goes on to use the same object would ask for more than is promised.
 */
final class Light {
    static final int MOST_CALLS = 512;
    static final int UNKNOWN = ZonedLight.UNKNOWN;
    static final int BAD_VALUE = ZonedLight.BAD_VALUE;
    static final int FULL = ZonedLight.FULL;
    static final int NONE = ZonedLight.NONE;

    /** Numbers that are outside of every range, the last two such that a sum or product wraps around. */
    static final int[] OUTSIDE = {Integer.MAX_VALUE, Integer.MIN_VALUE, 1 << 30, -(1 << 30)};

    private final ZonedLight light = new ZonedLight();
    private int calls = 0;

    private ZonedLight next() {
        calls++;
        if (calls > MOST_CALLS) {
            throw new IllegalStateException("a test may not use an object for more calls");
        }
        return light;
    }

    int callsLeft() {
        return MOST_CALLS - calls;
    }

    /** A new object whose picture is asked by a text; the text is empty then. */
    static Light asking(String picture) {
        Light light = new Light();
        light.askAll(picture);
        light.clearText();
        return light;
    }

    /** As asking, but a level is a peak and a light is a level: no spreading, no rounds, own share 256. */
    static Light alone(String picture) {
        return asking(picture).with(256, 0, 0, 0, 0);
    }

    /** Sets the settings from the first on. */
    Light with(int... settings) {
        for (int which = 0; which < settings.length; which++) {
            set(which, settings[which]);
        }
        return this;
    }

    /** Types a text in place of the one that was. */
    Light write(String text) {
        clearText();
        return typeOn(text);
    }

    Light typeOn(String text) {
        for (int i = 0; i < text.length(); i++) {
            type(text.charAt(i));
        }
        return this;
    }

    int askAll(String picture) {
        write(picture);
        return askAll();
    }

    int ask(int x, int y, int bright) {
        return next().ask(x, y, bright);
    }

    int askAll() {
        return next().askAll();
    }

    int move(int way) {
        return next().move(way);
    }

    int kill(int zone, boolean dead) {
        return next().kill(zone, dead);
    }

    int pass(int frames) {
        return next().pass(frames);
    }

    int set(int which, int value) {
        return next().set(which, value);
    }

    int type(char character) {
        return next().type(character);
    }

    int clearText() {
        return next().clearText();
    }

    int fault() {
        return next().fault();
    }

    int undo() {
        return next().undo();
    }

    int keep() {
        return next().keep();
    }

    int restore() {
        return next().restore();
    }

    int spot(int x, int y, int what) {
        return next().spot(x, y, what);
    }

    int zone(int zone, int what) {
        return next().zone(zone, what);
    }

    int count(int what) {
        return next().count(what);
    }

    double meanShown() {
        return next().meanShown();
    }

    int restsIn() {
        return next().restsIn();
    }

    int ifRule(int rule, int what) {
        return next().ifRule(rule, what);
    }

    int bestRule() {
        return next().bestRule();
    }

    int leastStep(int frames) {
        return next().leastStep(frames);
    }

    int dearest(int what) {
        return next().dearest(what);
    }
}
