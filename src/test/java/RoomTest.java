import java.lang.management.ManagementFactory;

/**
 * All calls of a run live in one room: what 512 of the dearest calls make is looked at,
 * so that nothing is made for each message that comes.
 */
public final class RoomTest {
    private static final long MOST_BYTES = 400_000;

    public static void main(String[] args) {
        Check check = new Check();
        var threads = (com.sun.management.ThreadMXBean) ManagementFactory.getThreadMXBean();
        long id = Thread.currentThread().getId();
        run();
        long before = threads.getThreadAllocatedBytes(id);
        run();
        long bytes = threads.getThreadAllocatedBytes(id) - before;
        check.holds("bytes made by a run: " + bytes, bytes < MOST_BYTES);
        check.end();
    }

    private static void run() {
        OrderedPeers x = new OrderedPeers();
        for (int p = 0; p < 32; p++) {
            x.peer(p, 0);
            x.join(p, 0);
            x.all(1000);
        }
        for (int k = 0; k < 160; k++) {
            x.span(k % 32, 0, 31);
        }
        for (int i = 0; i < 40; i++) {
            x.again(i % 32, 255 * (i % 2));
            x.all(1000);
            x.leave(31 - i % 31);
            x.all(1000);
            x.join(31 - i % 31, 0);
            x.all(1000);
        }
        for (int i = 0; i < 8; i++) {
            x.sound();
            x.worst();
        }
    }
}
