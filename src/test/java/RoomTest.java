import com.sun.management.ThreadMXBean;
import java.lang.management.ManagementFactory;

/** The room of a run: a new object takes little of it, and no call takes any. */
public final class RoomTest {
    // LANGUAGE.md: one room holds some 7.3 million fields and elements; an object may take a thousandth.
    private static final long MOST_FOR_AN_OBJECT = 7300 * 4;
    // What the machine itself may make on the thread while it measures.
    private static final long SLACK = 4096;

    private static final Due DUE = new Due("RoomTest");
    private static final ThreadMXBean THREADS = (ThreadMXBean) ManagementFactory.getThreadMXBean();

    public static void main(String[] args) {
        dearest(new LagoonGates(), 2);
        long before = made();
        LagoonGates x = new LagoonGates();
        DUE.holds("room of an object", made() - before <= MOST_FOR_AN_OBJECT);
        before = made();
        dearest(x, 20);
        long calls = made() - before;
        DUE.holds("room of calls is " + calls, calls <= SLACK);
        DUE.end();
    }

    private static long made() {
        return THREADS.getThreadAllocatedBytes(Thread.currentThread().getId());
    }

    private static void dearest(LagoonGates x, int times) {
        x.clearText();
        typeOrder(x, 'g', 8);
        typeOrder(x, 'r', 9);
        for (int i = 0; i < times; i++) {
            x.gates(i % 8);
            x.turbines(i % 6);
            x.pump(i);
            x.birds(i, 100);
            x.set(0, 1 + i);
            x.run(150);
            x.dredge(1);
            x.play();
            x.fault(0);
            x.best(150, 1);
            x.gatesFor(150, 0);
            x.would(300, 0);
            x.seaAt(400);
            x.bestDay();
            x.share();
            x.undo();
            x.next(3);
            x.count(8);
            x.now(5);
            x.record(0, 0);
            x.sea(9999);
        }
    }

    private static void typeOrder(LagoonGates x, char kind, int number) {
        x.type(kind);
        x.type('0' + number);
        x.type(';');
    }
}
