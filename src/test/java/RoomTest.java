import com.sun.management.ThreadMXBean;
import java.lang.management.ManagementFactory;

/** What an object makes in all of its 512 calls, the dearest ones, has place in one room. */
final class RoomTest {
    // 600,000 objects and arrays with 16 octets before their fields, 7.3 million fields and elements of 8.
    private static final long MOST_BYTES = 600000L * 16 + 7300000L * 8;

    public static void main(String[] args) {
        for (int way = 0; way < 4; way++) {
            // Once before, so that what the machine makes for itself is not counted.
            spend(way);
            ThreadMXBean threads = (ThreadMXBean) ManagementFactory.getThreadMXBean();
            long id = Thread.currentThread().getId();
            long before = threads.getThreadAllocatedBytes(id);
            spend(way);
            long made = threads.getThreadAllocatedBytes(id) - before;
            Check.due("way " + way + " makes " + made + " bytes, for which there is place", made < MOST_BYTES, true);
        }
        Check.end("RoomTest");
    }

    private static void spend(int way) {
        House x = new House(1024);
        for (int i = 0; x.callsLeft() > 5; i++) {
            if (way == 0 || way == 1 && i < 30) {
                x.many(1 + i % 3, 1000, i % 17 * 1000L, 1 + i % 2);
            } else if (way == 1) {
                x.range(-1, Long.MIN_VALUE, Long.MAX_VALUE);
            } else if (way == 2) {
                x.put(i % 60, i);
                x.mark();
                x.merge();
                if (x.told(5) == 8) {
                    x.release(i % 8);
                }
            } else {
                x.down();
                x.open();
                x.many(1, 200, i, 7);
                x.flush();
            }
        }
    }
}
