import com.sun.management.ThreadMXBean;
import java.lang.management.ManagementFactory;

/** All calls of one run live in one room: what a whole run makes stays small, whatever it calls. */
public final class RoomTest {
    private static final ThreadMXBean threads = (ThreadMXBean) ManagementFactory.getThreadMXBean();

    public static void main(String[] args) {
        Due due = new Due();
        run();
        long before = made();
        run();
        long bytes = made() - before;
        // An element of 4 bytes: some 40,000 of the room's 7.3 million.
        due.is("bytes of a run: " + bytes, bytes < 160_000 ? 1 : 0, 1);
        before = made();
        for (int i = 0; i < 512; i++) {
            new DeltaRoad();
        }
        bytes = made() - before;
        due.is("bytes of 512 new ones: " + bytes, bytes < 512 * 12_000 ? 1 : 0, 1);
        due.end("RoomTest");
    }

    private static long made() {
        return threads.getThreadAllocatedBytes(Thread.currentThread().getId());
    }

    private static int run() {
        DeltaRoad x = new DeltaRoad();
        int sum = 0;
        for (int i = 0; i < 6; i++) {
            sum += x.village(8 * i, 9);
        }
        x.make(24, 4, 1);
        x.weight(12, 3);
        for (int i = 0; i < 25; i++) {
            sum += x.level(i) + x.flood() + x.vote() + x.share(63, 3, 0) + x.lay(63) + x.goes() + (int) x.odds(6, 0);
            sum += x.weeks(60) + x.image() + x.restore() + x.sheet(i % 4, i % 3, 24) + x.leaves(63, i % 4, i % 3, 0);
            sum += x.film(3, i % 4, i % 3, 0) + x.type(0x3939393939393939L, 8) + x.delta() + x.villages() + x.worth(63) + x.road(1);
        }
        return sum;
    }
}
