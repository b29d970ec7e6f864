import com.sun.management.ThreadMXBean;
import java.lang.management.ManagementFactory;

/** "All calls of one run live in ONE room": what a new object takes of it, and what its calls do. */
public final class RoomTest {
    // Kept, since asking for it makes objects too.
    private static final ThreadMXBean THREADS = (ThreadMXBean) ManagementFactory.getThreadMXBean();
    private static final int ROUNDS = 60;
    // A new object is some 130 objects and arrays with some 1,300 fields and elements.
    private static final long BYTES_OF_A_NEW_OBJECT = 40_000;
    // Less than one small object for each round of calls; measuring may itself make a few.
    private static final long BYTES_OF_ALL_CALLS = 800;

    public static void main(String[] args) {
        // Loading classes takes room too, but once and not a machine's: what is measured has been done before.
        measureObject();
        long object = measureObject();
        Expect.due("a new object, " + object + " bytes, is small", object < BYTES_OF_A_NEW_OBJECT ? 1 : 0, 1);
        small("many ways", Steps.copy(3, 1), Steps.above(3, -1, 3), Steps.copy(3, 1), Steps.above(3, -1, 5),
                Steps.copy(3, 1), Steps.above(3, -1, 7), Steps.copy(3, 1), Steps.above(3, -1, 9), Steps.exit());
        small("rows and cells", Steps.and(1, 7), Steps.copy(4, 2), Steps.find(), Steps.store(4, 0, 0),
                Steps.load(5, 4, 0), Steps.equal(5, 0, 10), Steps.load(0, 5, 1), Steps.store(5, 0, 0), Steps.exit(),
                Steps.countCalls(), Steps.exit());
        Expect.end();
    }

    private static void small(String what, int[]... rest) {
        measureCalls(rest);
        long bytes = measureCalls(rest);
        Expect.due(what + ", " + bytes + " bytes, are little", bytes < BYTES_OF_ALL_CALLS ? 1 : 0, 1);
    }

    private static long measureObject() {
        long before = allocated();
        CheckedMachine x = new CheckedMachine();
        long made = allocated() - before;
        Expect.due("a new object's steps", x.count(0), 0);
        return made;
    }

    /** Every call that doesn't throw, so many times. */
    private static long measureCalls(int[]... rest) {
        int[] first = Steps.set(0, 1);
        CheckedMachine x = Expect.machine(Steps.join(Steps.list(first), rest));
        long looked = 0;
        long before = allocated();
        for (int i = 0; i < ROUNDS; i++) {
            x.put(0, first[0], first[1], first[2], first[3], first[4]);
            x.cut(x.add(17, 0, 0, 0, 0));
            looked += x.check();
            x.fill(i % 6, i % 2, x.run(i) + x.outcome(true) + x.row(i % 6, i % 2));
        }
        long made = allocated() - before;
        Expect.due("steps looked at", looked, ROUNDS * (long) x.count(4));
        return made;
    }

    private static long allocated() {
        return THREADS.getThreadAllocatedBytes(Thread.currentThread().getId());
    }
}
