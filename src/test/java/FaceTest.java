import java.lang.reflect.Constructor;
import java.lang.reflect.Field;
import java.lang.reflect.Method;
import java.lang.reflect.Modifier;
import java.util.Set;
import java.util.TreeSet;

/** Promise 1, and the public face. */
final class FaceTest {
    private static final String[] METHODS = {
        "int ask(int,int,int)", "int askAll()", "int move(int)", "int kill(int,boolean)",
        "int pass(int)", "int set(int,int)", "int type(char)", "int clearText()", "int fault()",
        "int undo()", "int keep()", "int restore()", "int spot(int,int,int)", "int zone(int,int)",
        "int count(int)", "double meanShown()", "int restsIn()", "int ifRule(int,int)",
        "int bestRule()", "int leastStep(int)", "int dearest(int)"
    };

    public static void main(String[] args) {
        Due due = new Due();
        constants(due);
        methods(due);
        newObject(due);
        objectsAreApart(due);
        due.close("FaceTest");
    }

    private static void constants(Due due) {
        due.due("UNKNOWN", ZonedLight.UNKNOWN, -1);
        due.due("BAD_VALUE", ZonedLight.BAD_VALUE, -2);
        due.due("FULL", ZonedLight.FULL, -3);
        due.due("NONE", ZonedLight.NONE, -5);
        Set<String> seen = new TreeSet<>();
        for (Field field : ZonedLight.class.getDeclaredFields()) {
            if (!Modifier.isPrivate(field.getModifiers())) {
                seen.add(field.getName());
            }
        }
        due.due("fields that are seen: " + seen, seen.size(), 4);
    }

    private static void methods(Due due) {
        due.due("public", Modifier.isPublic(ZonedLight.class.getModifiers()) ? 1 : 0, 1);
        due.due("final", Modifier.isFinal(ZonedLight.class.getModifiers()) ? 1 : 0, 1);
        Set<String> seen = new TreeSet<>();
        for (Method method : ZonedLight.class.getDeclaredMethods()) {
            if (Modifier.isPublic(method.getModifiers())) {
                seen.add(signature(method));
            } else if (!method.isSynthetic()) {
                String name = method.getName();
                due.due("private: " + name, Modifier.isPrivate(method.getModifiers()) ? 1 : 0, 1);
            }
        }
        due.due("public methods: " + seen, seen.equals(Set.of(METHODS)) ? 1 : 0, 1);
        Constructor<?>[] constructors = ZonedLight.class.getDeclaredConstructors();
        due.due("constructors", constructors.length, 1);
        due.due("its parameters", constructors[0].getParameterCount(), 0);
        due.due("public", Modifier.isPublic(constructors[0].getModifiers()) ? 1 : 0, 1);
    }

    private static String signature(Method method) {
        StringBuilder text = new StringBuilder(method.getReturnType().getName());
        text.append(' ').append(method.getName()).append('(');
        for (Class<?> parameter : method.getParameterTypes()) {
            text.append(text.charAt(text.length() - 1) == '(' ? "" : ",").append(parameter.getName());
        }
        return text.append(')').toString();
    }

    private static void newObject(Due due) {
        ZonedLight light = new ZonedLight();
        for (int x = 0; x < 24; x++) {
            for (int y = 0; y < 12; y++) {
                for (int what = 0; what <= 4; what++) {
                    due.due("new: spot(" + x + ", " + y + ", " + what + ")", light.spot(x, y, what), 0);
                }
            }
        }
        for (int zone = 0; zone < 18; zone++) {
            for (int what = 0; what <= 8; what++) {
                due.due("new: zone(" + zone + ", " + what + ")", light.zone(zone, what), 0);
            }
        }
        int[] counts = {0, 0, 0, 0, 288, 0, 0, 0, 0, 0, 1, 0, 0, 180, 9, 1, 0, 3, 4, 2, 255};
        for (int what = 0; what < counts.length; what++) {
            due.due("new: count(" + what + ")", light.count(what), counts[what]);
        }
        due.due("new: meanShown()", light.meanShown(), 0.0);
        due.due("new: restsIn()", light.restsIn(), 0);
        due.due("new: leastStep(1)", light.leastStep(1), 0);
        due.due("new: bestRule()", light.bestRule(), 0);
        due.due("new: fault()", light.fault(), 0);
        due.due("new: clearText()", light.clearText(), 0);
        due.due("new: undo()", light.undo(), -5);
        due.due("new: restore()", light.restore(), -5);
    }

    private static void objectsAreApart(Due due) {
        ZonedLight one = new ZonedLight();
        ZonedLight other = new ZonedLight();
        one.ask(0, 0, 9);
        one.set(0, 256);
        one.kill(3, true);
        one.pass(2);
        one.type('1');
        due.due("other: spot", other.spot(0, 0, 0), 0);
        due.due("other: setting", other.count(13), 180);
        due.due("other: dead", other.count(9), 0);
        due.due("other: frames", other.count(0), 0);
        due.due("other: text", other.count(12), 0);
        due.due("other: history", other.count(11), 0);
    }
}
