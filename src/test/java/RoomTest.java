import com.sun.management.ThreadMXBean;
import java.lang.management.ManagementFactory;

/**
 * All calls of one run live in one room of some 600,000 objects and 7.3 million fields and
 * elements: 512 calls, the dearest among them, must leave next to nothing behind.
 */
public final class RoomTest {
    private static final Due DUE = new Due("RoomTest");
    private static final int ROUNDS = 39;
    private static final int WARM_UP = 20;
    private static final ThreadMXBean THREADS = (ThreadMXBean) ManagementFactory.getThreadMXBean();
    private static final long SELF = Thread.currentThread().getId();

    public static void main(String[] args) {
        for (int i = 0; i <= WARM_UP; i++) {
            measure(i == WARM_UP);
        }
        DUE.end();
    }

    /** Some to warm up: the machine makes objects of its own when a method runs first. */
    private static void measure(boolean counts) {
        long before = THREADS.getThreadAllocatedBytes(SELF);
        CommandLink x = new CommandLink();
        long made = THREADS.getThreadAllocatedBytes(SELF) - before;
        x.set(8, 10);
        x.start(0, 0);
        before = THREADS.getThreadAllocatedBytes(SELF);
        for (int i = 0; i < ROUNDS; i++) {
            x.send(i);
            x.past(i);
            x.tick(10);
            x.take();
            x.soon();
            x.ways();
            x.image(i % 3 != 0);
            x.told(1, 3);
            x.told(0, -1);
            x.feed(0x74616B65, 0x3B202020, 0x20202020, 0x20202020, 0x20202020);
            x.plan();
            x.run(24);
            x.start(0, 0);
        }
        long used = THREADS.getThreadAllocatedBytes(SELF) - before;
        if (counts) {
            DUE.is("a new object: bytes " + made, true, made < 48_000);
            DUE.is("some 510 calls: bytes " + used, true, used < 4_000);
        }
    }
}
