import java.lang.management.ManagementFactory;

/** All calls of a run live in one room, so that no call may make an object. */
final class RoomTest {
    private static final int CALLS = 512;
    /** What the measuring itself may take, far less than one array of spots a call. */
    private static final int FREE_BYTES = 20_000;

    public static void main(String[] args) {
        Due due = new Due();
        com.sun.management.ThreadMXBean threads =
                (com.sun.management.ThreadMXBean) ManagementFactory.getThreadMXBean();
        threads.getCurrentThreadAllocatedBytes();
        ZonedLight light = Due.asking("0,0+24x12=9;4,4+9x5=200;0,0+1x1=0");
        Due.write(light, "0,0+24x12=90;4,4+9x5=250;0,0+1x1=0");
        long sum = callAll(light, 0);
        long before = threads.getCurrentThreadAllocatedBytes();
        for (int call = 0; call < CALLS; call++) {
            sum += callAll(light, call);
        }
        long made = threads.getCurrentThreadAllocatedBytes() - before;
        due.due("bytes made by " + CALLS + " rounds of calls: " + made, made < FREE_BYTES ? 1 : 0, 1);
        due.due("calls answered", sum != 0 ? 1 : 0, 1);
        due.close("RoomTest");
    }

    private static long callAll(ZonedLight light, int call) {
        long sum = light.ask(call % 24, call % 12, call % 256) + light.askAll() + light.move(call % 4);
        sum += light.kill(call % 18, call % 3 == 0) + light.pass(1 + call % 99);
        sum += light.set(call % 8, call % 256) + light.type('1') + light.undo() + light.keep();
        sum += light.fault() + light.restore() + light.spot(call % 24, call % 12, call % 5);
        sum += light.zone(call % 18, call % 9) + light.count(call % 21) + (long) light.meanShown();
        sum += light.restsIn() + light.ifRule(call % 3, call % 4) + light.bestRule();
        return sum + light.leastStep(1 + call % 255) + light.dearest(call % 2);
    }
}
