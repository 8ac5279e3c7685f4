import com.sun.management.ThreadMXBean;
import java.lang.management.ManagementFactory;

/**
 * All calls of a run live in one room of some 7.3 million fields and elements. The dearest runs must take a small part
 * of it: a million bytes are a quarter of a million ints.
 */
public final class RoomTest {
    /** With those that write the equations (130 at most), a run has not more than its 512 calls. */
    private static final int TURNS = 380;
    private static final long MOST_BYTES = 1_000_000;
    private static final ThreadMXBean THREADS = (ThreadMXBean) ManagementFactory.getThreadMXBean();

    private RoomTest() {
    }

    public static void main(String[] args) {
        boolean counted = THREADS.isThreadAllocatedMemorySupported() && THREADS.isThreadAllocatedMemoryEnabled();
        if (!counted) {
            System.out.println("this machine does not count what a thread makes");
        }
        for (Run run : Run.values()) {
            // What the machine makes when code runs for the first time is not the run's.
            run.bytes();
            long bytes = run.bytes();
            Check.due(run + " made " + bytes + " bytes, not too many", bytes <= MOST_BYTES ? 1 : 0, 1);
            Check.due(run + " was counted", !counted || bytes > 0 ? 1 : 0, 1);
        }
        Check.finish();
    }

    /** Runs of the calls that could make the most. */
    private enum Run {
        DEFINE, INSERT, SIMPLIFY, QUESTIONS, CYCLES, IMAGES;

        long bytes() {
            long before = THREADS.getCurrentThreadAllocatedBytes();
            StreamJudge x = maker();
            for (int turn = 0; turn < TURNS; turn++) {
                call(x, turn);
            }
            return THREADS.getCurrentThreadAllocatedBytes() - before;
        }

        private StreamJudge maker() {
            switch (this) {
                case DEFINE: return Check.judge(10, "+A".repeat(39) + "tA");
                case INSERT: return greatest();
                case SIMPLIFY: return Check.judge(10, "ttt" + "+A".repeat(20) + "A");
                case CYCLES: return Check.judge(10, "+:1B:2C", "+tA:1C", "+*AtB:0:0D", ":1A");
                default: return Check.judge(10, ":1+AtB", ":1zBe:1B", ":2+A+C+C+CC");
            }
        }

        /** A judge whose first equation is as great as equations get. */
        private static StreamJudge greatest() {
            StreamJudge x = Check.judge(10, "+A".repeat(38) + "+AB", "+B".repeat(20) + "tB", "1");
            Check.due("insert of a term of 42 parts into one of 79", x.insert(0, 1), 120);
            return x;
        }

        private void call(StreamJudge x, int turn) {
            switch (this) {
                case DEFINE: Check.due("define", x.define(turn % 8), 80); break;
                case INSERT: Check.due("insert without an occurrence", x.insert(0, 2), 120); break;
                case SIMPLIFY: simplify(x, turn); break;
                case QUESTIONS: ask(x, turn); break;
                case CYCLES: Check.due("cycle", x.cycle(turn % 4) >= 990 ? 1 : 0, 1); break;
                default: compare(x, turn); break;
            }
        }

        private static void simplify(StreamJudge x, int turn) {
            if (turn % 2 == 0) {
                Check.due("simplify", x.simplify(0), 60);
            } else {
                Check.due("undo has a state", x.undo() >= 0 ? 1 : 0, 1);
            }
        }

        /** Every second call is a change, so that the values must be found again. */
        private static void ask(StreamJudge x, int turn) {
            switch (turn % 10) {
                case 1: x.told(6); break;
                case 3: x.alike(0); break;
                case 5: x.needs(2, 399, turn % 4); break;
                case 7: x.stream(0, 5); break;
                case 9: x.parting(1, 2); break;
                default: x.setModulus(2 + turn % 9); break;
            }
        }

        private static void compare(StreamJudge x, int turn) {
            switch (turn % 3) {
                case 0: x.keep(turn % 2); break;
                case 1: x.changed(turn % 8, 0); break;
                default: x.back(turn % 2); break;
            }
        }
    }
}
