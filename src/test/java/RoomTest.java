import java.lang.management.ManagementFactory;

/** The room of all calls of a run: a new object makes little, and the calls that are answered make nothing. */
public final class RoomTest {
    private static final com.sun.management.ThreadMXBean MEMORY =
            (com.sun.management.ThreadMXBean) ManagementFactory.getThreadMXBean();
    /** What the measuring itself may take. */
    private static final long SLACK = 16_384;

    public static void main(String[] args) {
        // the first of each kind also takes what loading the classes takes
        bytesOf(() -> new FloodWardens().count(0));
        Due.holds("1000 new objects take less than 12 KB each", bytesOf(RoomTest::thousandNew) < 12_000_000);
        FloodWardens w = new FloodWardens();
        fill(w);
        Due.holds("40 rounds of calls make nothing", bytesOf(() -> rounds(w)) < SLACK);
        Due.end();
    }

    private static long bytesOf(Due.Call call) {
        long before = MEMORY.getThreadAllocatedBytes(Thread.currentThread().getId());
        call.answer();
        return MEMORY.getThreadAllocatedBytes(Thread.currentThread().getId()) - before;
    }

    private static long thousandNew() {
        long sum = 0;
        for (int number = 0; number < 1000; number++) {
            sum += new FloodWardens().count(0);
        }
        return sum;
    }

    private static void fill(FloodWardens w) {
        for (int hour = 0; hour < 12; hour++) {
            w.setRiver(hour, hour);
        }
        for (int number = 0; number < 10; number++) {
            w.settle(number, 6, 6);
        }
        for (int number = 0; number < 4; number++) {
            w.addRefuge(2 * number, 5, 12);
            w.addGauge(2 * number, 1, 4);
            w.addPump(2 * number, 1, 2, 30);
        }
        for (int number = 0; number < 3; number++) {
            w.addCaller(number, 3);
        }
    }

    private static long rounds(FloodWardens w) {
        long sum = 0;
        for (int round = 0; round < 40; round++) {
            sum += w.pass(36) + w.foresee(36, 0) + w.rings(0) + w.advise(6) + w.digest();
            sum += w.setGround(round % 10, 7, round % 10) + w.lay(0, 7, round % 6) + w.setRiver(0, round % 13);
            sum += w.run(0) ? 1 : 0;
            sum += w.share() > 0 ? 1 : 0;
        }
        return sum;
    }
}
