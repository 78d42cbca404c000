import com.sun.management.ThreadMXBean;
import java.lang.management.ManagementFactory;

/** All calls of a run live in one room: an object is small, and the calls on it make nothing more. */
public final class RoomTest {
    private static final int ROUNDS = 20;
    /** An int takes 4 bytes, so this is some 2,500 fields and elements at most. */
    private static final int MOST_BYTES_OF_AN_OBJECT = 10000;
    private static final int MOST_BYTES_OF_ALL_CALLS = 1000;

    private static final Check check = new Check();
    private static final ThreadMXBean threads = (ThreadMXBean) ManagementFactory.getThreadMXBean();

    public static void main(String[] args) {
        // The first rounds load classes; only the last ones tell what the program itself makes.
        long leastMade = Long.MAX_VALUE;
        long leastCalled = Long.MAX_VALUE;
        for (int round = 0; round < ROUNDS; round++) {
            long before = threads.getCurrentThreadAllocatedBytes();
            LotRules x = new LotRules(12);
            long made = threads.getCurrentThreadAllocatedBytes();
            callAll(x);
            long called = threads.getCurrentThreadAllocatedBytes();
            leastMade = Math.min(leastMade, made - before);
            leastCalled = Math.min(leastCalled, called - made);
        }
        System.out.println("a new object: " + leastMade + " bytes; all calls on it: " + leastCalled);
        check.holds("a new object is small", leastMade <= MOST_BYTES_OF_AN_OBJECT);
        check.holds("calls make nothing", leastCalled <= MOST_BYTES_OF_ALL_CALLS);
        check.end("RoomTest");
    }

    private static void callAll(LotRules x) {
        for (int i = 0; i < 6; i++) {
            x.item();
            x.set(i, i, 3);
            x.part(i, 0, 2);
            for (int p = 1; p <= 12; p++) {
                x.need(i, p, 7);
                x.make(i, p, 5);
                x.capacity(p, 1);
            }
        }
        x.over(0, 1);
        for (int p = 0; p <= 12; p++) {
            for (int i = 0; i < 6; i++) {
                x.gross(i, p);
                x.stock(i, p);
                x.spoilt(i, p);
                x.isSetUp(i, p);
                x.best(i);
                x.lot(i, p);
                x.from(i, p);
            }
            x.stands(p);
            x.time(p);
            x.price(p);
            x.faults();
            x.fault(p, p % 4);
            x.share(p % 4, 3);
        }
    }
}
