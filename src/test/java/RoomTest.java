import java.lang.management.ManagementFactory;

/** All calls of a run live in one room, so the calls of an object must make next to nothing. */
public final class RoomTest {
    private static final int CALLS = 512;
    /** Far below one small object a call, and above what the virtual machine itself may make. */
    private static final long MOST_BYTES = 16 * CALLS - 1;

    public static void main(String[] args) {
        com.sun.management.ThreadMXBean threads =
                (com.sun.management.ThreadMXBean) ManagementFactory.getThreadMXBean();
        PointBench warm = new PointBench();
        everyKind(warm, 64);
        threads.getCurrentThreadAllocatedBytes();
        PointBench bench = new PointBench();
        long before = threads.getCurrentThreadAllocatedBytes();
        everyKind(bench, CALLS);
        long made = threads.getCurrentThreadAllocatedBytes() - before;
        Checks.due("that " + CALLS + " calls make at most " + MOST_BYTES + " bytes, not " + made,
                made <= MOST_BYTES, true);
        Checks.end();
    }

    private static void everyKind(PointBench bench, int calls) {
        for (int i = 0; i < calls; i++) {
            switch (i % 16) {
                case 0: bench.base(0); break;
                case 1: bench.set(i / 16 % 8, i / 16 % 4, 77L + i); break;
                case 2: bench.get(0, 3); break;
                case 3: bench.compare(0, 1); break;
                case 4: bench.set(0, 0, 5L + i); break;
                case 5: bench.times(1, 0, 0); break;
                case 6: bench.add(2, 0, 1); break;
                case 7: bench.show(2, 1, 2); break;
                case 8: bench.lay(3, 1, 2); break;
                case 9: bench.lift(3, 1, true); break;
                case 10: bench.same(2, 3); break;
                case 11: bench.set(3, 1, i); break;
                case 12: bench.sign(4, 5, 0, 3, 1); break;
                case 13: bench.verify(1, 1, 4, 5); break;
                case 14: bench.work(i / 16 % 8, 6, 0, 3); break;
                default: bench.none(3); break;
            }
        }
    }
}
