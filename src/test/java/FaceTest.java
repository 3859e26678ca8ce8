import java.lang.reflect.Constructor;
import java.lang.reflect.Field;
import java.lang.reflect.Method;
import java.lang.reflect.Modifier;
import java.util.Set;
import java.util.TreeSet;

/** The public face, promise 1, and how long an object is used. */
final class FaceTest {
    private static final String[] METHODS = {
        "int ask(int,int,int)", "int askAll()", "int move(int)", "int kill(int,boolean)",
        "int pass(int)", "int set(int,int)", "int type(char)", "int clearText()", "int fault()",
        "int undo()", "int keep()", "int restore()", "int spot(int,int,int)", "int zone(int,int)",
        "int count(int)", "double meanShown()", "int restsIn()", "int ifRule(int,int)",
        "int bestRule()", "int leastStep(int)", "int dearest(int)"
    };

    public static void main(String[] args) {
        Due due = new Due();
        constants(due);
        classAndConstructor(due);
        methods(due);
        newScreenIsDark(due);
        newPictureIsBlack(due);
        nothingElseIsThere(due);
        objectsAreApart(due);
        lastCall(due);
        lastCallOfMany(due);
        due.close("FaceTest");
    }

    private static void constants(Due due) {
        due.terms(1, "public static final int UNKNOWN = -1;");
        due.due("UNKNOWN", ZonedLight.UNKNOWN, -1);
        due.terms(1, "public static final int BAD_VALUE = -2;");
        due.due("BAD_VALUE", ZonedLight.BAD_VALUE, -2);
        due.terms(1, "public static final int FULL = -3;");
        due.due("FULL", ZonedLight.FULL, -3);
        due.terms(1, "public static final int NONE = -5;");
        due.due("NONE", ZonedLight.NONE, -5);
        Set<String> seen = new TreeSet<>();
        for (Field field : ZonedLight.class.getDeclaredFields()) {
            if (!Modifier.isPrivate(field.getModifiers())) {
                seen.add(field.getName());
            }
        }
        due.due("fields that are seen: " + seen, seen.size(), 4);
    }

    private static void classAndConstructor(Due due) {
        due.terms(1, "public final class ZonedLight {");
        due.check("it is public", Modifier.isPublic(ZonedLight.class.getModifiers()));
        due.check("it is final", Modifier.isFinal(ZonedLight.class.getModifiers()));
        due.terms(1, "public ZonedLight();");
        Constructor<?>[] constructors = ZonedLight.class.getDeclaredConstructors();
        due.due("constructors", constructors.length, 1);
        due.due("its parameters", constructors[0].getParameterCount(), 0);
        due.check("it is public", Modifier.isPublic(constructors[0].getModifiers()));
    }

    private static void methods(Due due) {
        due.terms(1, "## The public face");
        Set<String> seen = new TreeSet<>();
        for (Method method : ZonedLight.class.getDeclaredMethods()) {
            if (Modifier.isPublic(method.getModifiers())) {
                seen.add(signature(method));
            } else if (!method.isSynthetic()) {
                due.check(method.getName() + " is private", Modifier.isPrivate(method.getModifiers()));
            }
        }
        due.check("these are the public methods: " + seen, seen.equals(Set.of(METHODS)));
    }

    private static String signature(Method method) {
        StringBuilder text = new StringBuilder(method.getReturnType().getName());
        text.append(' ').append(method.getName()).append('(');
        for (Class<?> parameter : method.getParameterTypes()) {
            text.append(text.charAt(text.length() - 1) == '(' ? "" : ",").append(parameter.getName());
        }
        return text.append(')').toString();
    }

    private static void newScreenIsDark(Due due) {
        due.promise(1, "Creates a dark screen");
        for (int zone = 0; zone < 18; zone++) {
            Light light = new Light();
            for (int what = 0; what <= 8; what++) {
                due.due("zone(" + zone + ", " + what + ")", light.zone(zone, what), 0);
            }
        }
        for (int y = 0; y < 12; y++) {
            Light light = new Light();
            for (int x = 0; x < 24; x++) {
                for (int what = 1; what <= 4; what++) {
                    due.due("spot(" + x + ", " + y + ", " + what + ")", light.spot(x, y, what), 0);
                }
            }
        }
        due.due("meanShown()", new Light().meanShown(), 0.0);
    }

    private static void newPictureIsBlack(Due due) {
        due.promise(1, "with a black picture");
        Light light = new Light();
        for (int y = 0; y < 12; y++) {
            for (int x = 0; x < 24; x++) {
                due.due("spot(" + x + ", " + y + ", 0)", light.spot(x, y, 0), 0);
            }
        }
    }

    private static void nothingElseIsThere(Due due) {
        due.promise(1, "`ZonedLight()`");
        Light light = new Light();
        int[] counts = {0, 0, 0, 0, 288, 0, 0, 0, 0, 0, 1, 0, 0, 180, 9, 1, 0, 3, 4, 2, 255};
        for (int what = 0; what < counts.length; what++) {
            due.due("count(" + what + ")", light.count(what), counts[what]);
        }
        due.due("restsIn()", light.restsIn(), 0);
        due.due("leastStep(1)", light.leastStep(1), 0);
        due.due("bestRule()", light.bestRule(), 0);
        due.due("dearest(0)", light.dearest(0), 0);
        due.due("dearest(1)", light.dearest(1), 0);
        due.due("fault()", light.fault(), 0);
        due.due("clearText()", light.clearText(), 0);
        due.due("undo()", light.undo(), -5);
        due.due("restore()", light.restore(), -5);
    }

    private static void objectsAreApart(Due due) {
        due.promise(1, "Creates");
        Light other = new Light();
        Light one = Light.asking("0,0+24x12=9").with(256, 3, 5, 1, 2, 8, 1, 7);
        one.kill(3, true);
        one.keep();
        one.pass(2);
        one.type('1');
        due.same("another object", Seen.now(other), Seen.now(new Light()));
        due.due("restore() of another", other.restore(), -5);
    }

    private static void lastCall(Due due) {
        due.terms(6, "An object is used for at most 512 calls after it has been made");
        Light light = new Light();
        light.askAll("0,0+24x12=255");
        int frames = 0;
        while (light.callsLeft() > 1) {
            due.due("pass(99)", light.pass(99), 18 * 255);
            frames += 99;
        }
        due.due("count(3) as the last call", light.count(3), (long) frames * 18 * 255);
        due.due("frames", frames, 496 * 99);
    }

    /** A zone that dies and lives again in turn: the flicker grows, and what was dropped stays dropped. */
    private static void lastCallOfMany(Due due) {
        due.terms(13, "An object is used for at most 512 calls after it has been made");
        Light light = Light.asking("0,0+24x12=255");
        light.keep();
        light.pass(1);
        int lives = 0;
        while (light.callsLeft() > 6) {
            due.due("kill", light.kill(0, true), 255);
            due.due("live", light.kill(0, false), 0);
            due.due("pass", light.pass(1), 18 * 255);
            lives++;
        }
        due.due("frames", light.count(0), 1 + lives);
        due.due("flicker", light.count(2), (18 + lives) * 255);
        due.due("states", light.count(11), 4);
        while (light.callsLeft() > 1) {
            light.keep();
        }
        due.due("restore() as the last call", light.restore(), 1 + lives);
    }
}
