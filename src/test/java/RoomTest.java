import com.sun.management.ThreadMXBean;
import java.lang.management.ManagementFactory;

/** All that an object needs is made with it: no call makes objects, so that any run keeps to the room. */
public final class RoomTest {
    private static final ThreadMXBean THREADS = (ThreadMXBean) ManagementFactory.getThreadMXBean();
    /** What the measuring itself may make. */
    private static final long SLACK = 4096;
    /** Some 2,000 elements of at most 8 bytes: 3,000 objects fit into a room of 7.3 million. */
    private static final long MOST_OF_ONE = 16_000;
    private static long sink = 0;

    public static void main(String[] args) {
        // the first object and the first measuring also load classes
        sink += new DreamShares().count(6) + THREADS.getCurrentThreadAllocatedBytes();
        long before = THREADS.getCurrentThreadAllocatedBytes();
        DreamShares x = new DreamShares();
        long made = THREADS.getCurrentThreadAllocatedBytes() - before;
        Due.holds("a new object takes " + made + " bytes", made <= MOST_OF_ONE + SLACK);
        Due.type(x, 0, "3214;1111;0902;2040;5005;1230");
        Due.type(x, 1, "fw8;wg6;nn3;f2;gg7;n1");
        callAll(x);
        before = THREADS.getCurrentThreadAllocatedBytes();
        for (int i = 0; i < 100; i++) {
            callAll(x);
        }
        made = THREADS.getCurrentThreadAllocatedBytes() - before;
        Due.holds("calls make nothing, but made " + made + " bytes, sum " + sink, made <= SLACK);
        Due.end();
    }

    private static void callAll(DreamShares x) {
        sink += x.type(1, 59) + x.undo(1) + x.fault(0) + x.member(0, 0) + x.recipe(0, 0) + x.supper(1, 1) + x.set(0, 3);
        sink += x.pay(0, 1) + x.dreamt(0, 1) + x.sheet(0, 1, 48) + x.sheet(1, 1, 9) + x.put(0, 1, 3, 4) + x.get(0, 1, 3);
        sink += x.read(0) + x.copy(0, 0, 1, 0, 9) + x.write(5, 0) + x.lose(1) + x.lose(1) + x.count(5);
        sink += x.chance(0, 0, 0) + x.worth(1, 1, 1, 1) + x.made(1, 1, 1, 1, 5) + x.mean(63, 0) + x.share(0, 0);
        sink += x.leave() + x.strike(1, 0) + x.best(0) + x.menu(3, 0) + x.menuMean(3, 0) + x.dread(2, 0);
        sink += x.rows(2, 2, 1, 1) + x.may(2, 2, 1, 1, 0) + x.likeliest(2, 2, 1, 1, 0) + x.kept(1, 0, 0, 0);
        sink += x.week(5, 60, 0) + x.digest();
    }
}
