import com.sun.management.ThreadMXBean;
import java.lang.management.ManagementFactory;

/** What an object makes in all of its 512 calls stays far below one room (7.3 million elements). */
final class RoomTest {
    private static final long MOST_BYTES = 3000000;

    public static void main(String[] args) {
        for (int way = 0; way < 4; way++) {
            // Once before, so that what the machine makes for itself is not counted.
            spend(way);
            ThreadMXBean threads = (ThreadMXBean) ManagementFactory.getThreadMXBean();
            long id = Thread.currentThread().getId();
            long before = threads.getThreadAllocatedBytes(id);
            spend(way);
            long made = threads.getThreadAllocatedBytes(id) - before;
            Check.due("way " + way + " makes " + made + " bytes, which is little", made < MOST_BYTES, true);
        }
        Check.end("RoomTest");
    }

    private static void spend(int way) {
        SortedRuns x = new SortedRuns(1024);
        for (int i = 0; i < 512; i++) {
            if (way == 0 || way == 1 && i < 30) {
                x.many(1 + i % 3, 1000, i % 17 * 1000L, 1 + i % 2);
            } else if (way == 1) {
                x.range(-1, Long.MIN_VALUE, Long.MAX_VALUE);
            } else if (way == 2) {
                x.put(i, i);
                x.mark();
                if (i % 3 == 0) {
                    x.release(0);
                }
                x.merge();
            } else if (!x.down()) {
                x.open();
                x.many(1, 200, i, 7);
                x.flush();
            }
        }
    }
}
