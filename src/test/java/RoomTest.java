import com.sun.management.ThreadMXBean;
import java.lang.management.ManagementFactory;

/**
 * All calls of a run live in one room of some 600,000 objects and 7.3 million elements, so 512 of
 * the dearest calls must not make much. The bound is far below the room and far above the need.
 */
public final class RoomTest {
    private static final int CALLS = 512;
    private static final long MOST_BYTES = 500_000;

    private RoomTest() {
    }

    public static void main(String[] args) {
        HedgeCommittee c = new HedgeCommittee();
        c.addHedge(99, 9, 5);
        c.propose(5, 20);
        for (int i = 1; i < 12; i++) {
            c.amend(i / 2, 5, 20);
        }
        isCheap("new HedgeCommittee()", 1, HedgeCommittee::new);
        isCheap("isConsistent()", CALLS, c::isConsistent);
        isCheap("bestWorthBySets()", CALLS, c::bestWorthBySets);
        isCheap("writeBranch(0)", CALLS, () -> c.writeBranch(0));
        isCheap("passSeason()", CALLS, c::passSeason);
        isCheap("undo and passSeason", CALLS, () -> c.undo() + c.passSeason());
        isCheap("save()", CALLS, () -> {
            c.save();
            return 0;
        });
        isCheap("programs", CALLS / 56, () -> {
            for (int i = 0; i < 55; i++) {
                c.append("season;".charAt(i % 7));
            }
            return c.run();
        });
        Check.finish();
    }

    private static void isCheap(String what, int times, Check.Call call) {
        ThreadMXBean threads = (ThreadMXBean) ManagementFactory.getThreadMXBean();
        call.answer();
        long self = Thread.currentThread().getId();
        long before = threads.getThreadAllocatedBytes(self);
        for (int i = 0; i < times; i++) {
            call.answer();
        }
        long bytes = threads.getThreadAllocatedBytes(self) - before;
        if (bytes > MOST_BYTES) {
            Check.equal(what + " made " + bytes + " bytes", false, true);
        }
    }
}
