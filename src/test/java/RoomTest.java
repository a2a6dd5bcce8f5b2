import com.sun.management.ThreadMXBean;
import java.lang.management.ManagementFactory;
import java.util.function.IntConsumer;

/** All calls of one run live in one room: what many calls of a kind make together stays far below it. */
public final class RoomTest {
    /**
     * Half of the room in bytes. An element takes one byte at least and an object 16, so whoever makes fewer bytes makes
     * fewer than 7.3 million elements and fewer than 600,000 objects.
     */
    private static final long ROOM = 7_300_000 / 2;
    private static final ThreadMXBean THREADS = (ThreadMXBean) ManagementFactory.getThreadMXBean();

    private RoomTest() {
    }

    public static void main(String[] args) {
        made("new objects", i -> new LinesPromised(), 64);
        LinesPromised x = Everything.rich();
        x.image();
        made("texts", i -> { x.feed(0x79, 1); x.text(0); }, 256);
        made("tried orders", i -> { x.feed(0x6761702030L, 5); x.tried(i % 3); }, 256);
        made("days", i -> { if (x.dig(50) < 0) x.undo(); }, 512);
        made("plans", i -> { if (Check.plan(x, 0, 0, 1, 2, 3) < 0) x.undo(); }, 512);
        made("claims", i -> { if (x.claim(i % 80, 1) < 0) x.undo(); }, 512);
        made("images", i -> x.image(), 512);
        made("undoing", i -> x.undo(), 512);
        made("loans settled", i -> { x.lend(0, 0, 1); x.settle(); }, 256);
        made("payments told", i -> x.along(0, i % 8), 512);
        made("least ways", i -> x.slope(0, 1, i, 0), 512);
        made("bills to grant", i -> x.plan(3, 99999, 999999, 0), 512);
        made("lines relaid", i -> x.gauge(3), 512);
        made("jobs", i -> { x.hand(1 + i % 30, 30); x.midnight(999, 0); }, 256);
        made("trade", i -> { x.ask(0, i % 8, 1, 1, i % 2 == 0); x.price(0); }, 256);
        Check.end();
    }

    private static void made(String what, IntConsumer calls, int times) {
        long before = THREADS.getCurrentThreadAllocatedBytes();
        for (int i = 0; i < times; i++) calls.accept(i);
        long bytes = THREADS.getCurrentThreadAllocatedBytes() - before;
        Check.holds(what + " make little: " + bytes + " bytes", bytes >= 0 && bytes < ROOM);
    }
}
