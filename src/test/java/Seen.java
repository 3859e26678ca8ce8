import java.util.ArrayList;
import java.util.List;

/** Everything that can be seen of an object, its history, snapshot and text too. */
final class Seen {
    private static final int MOST_UNDONE = 5;

    private final List<String> seen = new ArrayList<>();

    private Seen() {
    }

    /** Calls on a new object. */
    interface Calls {
        void on(Light light);
    }

    /** What can be seen after some calls. Each look is at an object of its own, as looking takes calls. */
    static List<String> after(Calls calls) {
        Seen all = new Seen();
        for (int undone = 0; undone <= MOST_UNDONE; undone++) {
            Light light = made(calls);
            for (int i = 0; i < undone; i++) {
                all.add("undo() as number " + (i + 1), light.undo());
            }
            all.look(undone + " undone: ", light);
        }
        Light restored = made(calls);
        all.add("restore()", restored.restore());
        all.look("restored: ", restored);
        Light asked = made(calls);
        all.add("askAll()", asked.askAll());
        all.look("asked: ", asked);
        return all.seen;
    }

    /** What can be seen at once: the state, but not what history and snapshot hold. */
    static List<String> now(Light light) {
        Seen all = new Seen();
        all.look("", light);
        return all.seen;
    }

    private static Light made(Calls calls) {
        Light light = new Light();
        calls.on(light);
        return light;
    }

    private void look(String when, Light light) {
        for (int y = 0; y < 12; y++) {
            for (int x = 0; x < 24; x++) {
                add(when + "spot(" + x + ", " + y + ", 0)", light.spot(x, y, 0));
            }
        }
        for (int zone = 0; zone < 18; zone++) {
            for (int what : new int[] {0, 1, 3}) {
                add(when + "zone(" + zone + ", " + what + ")", light.zone(zone, what));
            }
        }
        for (int what = 0; what <= 20; what++) {
            add(when + "count(" + what + ")", light.count(what));
        }
        add(when + "fault()", light.fault());
    }

    private void add(String call, int answer) {
        seen.add(call + " answered " + answer);
    }
}
