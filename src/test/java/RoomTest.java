import com.sun.management.ThreadMXBean;
import java.lang.management.ManagementFactory;

/** All calls of a run live in one room: an object's rows are made once and used again. */
public final class RoomTest {
    private static final Due DUE = new Due("RoomTest");
    private static final ThreadMXBean BEAN = (ThreadMXBean) ManagementFactory.getThreadMXBean();

    private RoomTest() {
    }

    private static long allocated() {
        return BEAN.getThreadAllocatedBytes(Thread.currentThread().getId());
    }

    public static void main(String[] args) {
        run();
        long before = allocated();
        long kept = run();
        long after = allocated();
        // Some 60,000 elements of 4 bytes for the greatest object with four kept models.
        DUE.holds("an object and its calls take " + (after - before), after - before < 300000);
        DUE.holds("the dearest calls take " + kept, kept < 4000);
        DUE.end();
    }

    /** The dearest run: what its calls took, once four models had been kept. */
    private static long run() {
        PpmTrees x = new PpmTrees(4, 1500);
        x.fill(300, 77, 0);
        for (int i = 0; i < 4; i++) {
            x.save(0);
        }
        long before = allocated();
        for (int i = 0; i < 80; i++) {
            x.pack();
            x.open();
            x.forget();
            x.save(0);
            x.restore(1, 0);
            x.cost(1, 256);
        }
        return allocated() - before;
    }
}
