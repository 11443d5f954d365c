import com.sun.management.ThreadMXBean;
import java.lang.management.ManagementFactory;

/** All objects are made in the constructor: calls make none, however often they come. */
final class MemoryTest {
    private static final long ROOM_OF_ALL_CALLS = 4096, ROOM_OF_AN_OBJECT = 16384;

    public static void main(String[] args) {
        Check check = new Check("memory");
        ThreadMXBean threads = (ThreadMXBean) ManagementFactory.getThreadMXBean();
        long own = Thread.currentThread().getId();
        callAll(new SundialSpans());

        long start = threads.getThreadAllocatedBytes(own);
        SundialSpans court = new SundialSpans();
        long made = threads.getThreadAllocatedBytes(own);
        for (int round = 0; round < 30; round++) {
            callAll(court);
        }
        long called = threads.getThreadAllocatedBytes(own);
        check.holds("an object takes " + (made - start) + " bytes", made - start <= ROOM_OF_AN_OBJECT);
        check.holds("the calls take " + (called - made) + " bytes", called - made <= ROOM_OF_ALL_CALLS);
        check.end();
    }

    private static void callAll(SundialSpans court) {
        court.set(SundialSpans.WIDEN, 5);
        court.dial();
        court.read(0, 600, 5);
        court.pass(60);
        court.agree();
        court.of(0, 0);
        court.best(3);
        court.end(0, 0);
        court.overlap(600);
        court.count(0);
        court.mean();
        court.share();
        court.allowing(1, 1);
        court.fewest();
        court.widerIn(9);
        court.without(0);
        court.put(0x643B723D352D3BL);
        court.fault();
        court.wipe();
        court.put(0x723D3B72303D35L);
        court.wipe();
        court.put(0x643B72303D353BL);
        court.put(0x613B7435L);
        court.carryOut();
        court.undo();
        court.save(1);
        court.restore(1);
    }
}
