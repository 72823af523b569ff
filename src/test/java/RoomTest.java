import com.sun.management.ThreadMXBean;
import java.lang.management.ManagementFactory;

/** No call makes an object: all that a run makes is made with the object itself. */
final class RoomTest {
    // What the measuring itself may make; one int row of 120 in one of 512 calls would be far above it.
    private static final long ALLOWED = 20_000;
    private static final long FOR_AN_OBJECT = 120_000;

    private RoomTest() {
    }

    static void all() {
        ThreadMXBean threads = (ThreadMXBean) ManagementFactory.getThreadMXBean();
        if (!threads.isThreadAllocatedMemorySupported()) {
            return;
        }
        calls(new PostRopes());
        measured(threads, new PostRopes());
        long before = threads.getCurrentThreadAllocatedBytes();
        PostRopes ropes = new PostRopes();
        long made = threads.getCurrentThreadAllocatedBytes() - before;
        long inCalls = measured(threads, ropes);
        Checks.holds("512 calls make nothing, made " + inCalls + " bytes", inCalls < ALLOWED);
        Checks.holds("an object is small, took " + made + " bytes", made < FOR_AN_OBJECT);
    }

    private static long measured(ThreadMXBean threads, PostRopes ropes) {
        long before = threads.getCurrentThreadAllocatedBytes();
        calls(ropes);
        return threads.getCurrentThreadAllocatedBytes() - before;
    }

    private static int calls(PostRopes ropes) {
        int sum = ropes.put(0x285B612C625D6329L) + ropes.load(0) + ropes.put(0x28616229L) + ropes.put(0x39L) + ropes.load(1);
        for (int round = 0; round < 16; round++) {
            sum += ropes.width(round % 6, 3) + ropes.cross(2, round % 12) + ropes.join(3, 2) + ropes.pull(3) + ropes.turn(0);
            sum += ropes.back(3, 1) + ropes.weave(2, 0) + ropes.undo() + ropes.swap(round % 5, round % 2) + ropes.undo();
            sum += ropes.put(0x5B612C625DL) + ropes.fault() + ropes.wipe() + ropes.crossing(0, 1) + ropes.winds(0, 1);
            sum += ropes.ofRope(0, round % 9) + ropes.least(0, 1) + ropes.count(6) + ropes.falls(0, 3) + ropes.felling(0, 0);
            sum += ropes.both(0, 2, round % 4) + ropes.cuts(1) + ropes.ifSwapped(1, 1) + ropes.bestSwap(2);
            sum += ropes.save(0) + ropes.restore(0);
        }
        return sum;
    }
}
