import java.lang.management.ManagementFactory;

/** All calls of a run live in one room, so that an object is small and no call makes one. */
final class RoomTest {
    private static final int OBJECTS = 20;
    /** Seven screens of 288 spots and what goes with them. */
    private static final int BYTES_OF_ONE = 16_000;
    /** What the measuring itself may take, far less than one array of spots a call. */
    private static final int FREE_BYTES = 20_000;

    private static final com.sun.management.ThreadMXBean THREADS =
            (com.sun.management.ThreadMXBean) ManagementFactory.getThreadMXBean();

    public static void main(String[] args) {
        Due due = new Due();
        Light[] lights = new Light[OBJECTS];
        bytesSoFar();
        long before = bytesSoFar();
        for (int i = 0; i < OBJECTS; i++) {
            lights[i] = new Light();
        }
        long made = bytesSoFar() - before;
        due.check(OBJECTS + " objects are small, of " + made + " bytes", made < OBJECTS * BYTES_OF_ONE);
        for (Light light : lights) {
            light.askAll("0,0+24x12=9;4,4+9x5=200;0,0+1x1=0");
            light.write("0,0+24x12=90;4,4+9x5=250;0,0+1x1=0");
        }
        long sum = callAll(lights[0], 0);
        before = bytesSoFar();
        for (Light light : lights) {
            for (int round = 0; light.callsLeft() > 30; round++) {
                sum += callAll(light, round);
            }
        }
        made = bytesSoFar() - before;
        due.check("calls make nothing, but made " + made + " bytes", made < FREE_BYTES);
        due.check("calls answered", sum != 0);
        due.close("RoomTest");
    }

    private static long bytesSoFar() {
        return THREADS.getCurrentThreadAllocatedBytes();
    }

    private static long callAll(Light light, int call) {
        long sum = light.ask(call % 24, call % 12, call % 256) + light.askAll() + light.move(call % 4);
        sum += light.kill(call % 18, call % 3 == 0) + light.pass(1 + call % 99);
        sum += light.set(call % 8, call % 256) + light.type('1') + light.undo() + light.keep();
        sum += light.fault() + light.restore() + light.spot(call % 24, call % 12, call % 5);
        sum += light.zone(call % 18, call % 9) + light.count(call % 21) + (long) light.meanShown();
        sum += light.restsIn() + light.ifRule(call % 3, call % 4) + light.bestRule();
        return sum + light.leastStep(1 + call % 255) + light.dearest(call % 2);
    }
}
