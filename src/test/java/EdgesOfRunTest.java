/** What running does with each op at its edges, and the edges of promise 6, sentence by sentence. */
public final class EdgesOfRunTest {
    private static final long MIN = Expect.MIN;
    private static final long MAX = Expect.MAX;
    private static final int INT_MIN = Integer.MIN_VALUE;
    private static final int INT_MAX = Integer.MAX_VALUE;
    private static final long[] LONGS = {MIN, MIN + 1, -(1L << 62), INT_MIN - 1L, INT_MIN, INT_MIN + 1L, -101, -6, -5,
        -4, -2, -1, 0, 1, 2, 4, 5, 6, 99, 100, INT_MAX - 1L, INT_MAX, INT_MAX + 1L, 1L << 32, (1L << 32) + 5,
        1L << 62, MAX - 1, MAX};
    private static final int[] INTS = {INT_MIN, INT_MIN + 1, -5, -2, -1, 0, 1, 2, 5, INT_MAX - 1, INT_MAX};

    public static void main(String[] args) {
        theArgument();
        everyRunBeginsAnew();
        theNextStepFollows();
        setAndCopy();
        sums();
        differencesAndNegatives();
        products();
        masks();
        shifts();
        quotients();
        placesGrow();
        equal();
        above();
        below();
        go();
        cellsOfTheFrame();
        cellsOfARow();
        countCalls();
        find();
        greater();
        exit();
        runNeedsACheckedProgram();
        Expect.end();
    }

    /** R0 is the argument, then the steps, then EXIT. */
    private static CheckedMachine onArgument(int[]... steps) {
        CheckedMachine x = Expect.machine(Steps.join(Steps.any(0), steps, Steps.list(Steps.exit())));
        x.check();
        return x;
    }

    private static void theArgument() {
        Expect.sentence("RUNNING begins at STEP 0 with R1 the ARGUMENT (a long)");
        CheckedMachine x = onArgument();
        for (long v : LONGS) {
            Expect.due("run", x.run(v), v);
        }
    }

    private static void everyRunBeginsAnew() {
        Expect.sentence("R2 offset 0 in the FRAME, all else EMPTY");
        // R2 goes on by the argument (0 or 1) in each run, so it would leave the frame if it stayed.
        CheckedMachine x = Expect.checked("places", Steps.and(1, 1), Steps.set(0, 20), Steps.store(2, 0, 0),
                Steps.set(0, 21), Steps.store(2, 1, 0), Steps.plusReg(2, 1), Steps.load(0, 2, 0), Steps.exit());
        for (int i = 0; i < 8; i++) {
            Expect.due("run", x.run(1), 21);
        }
        Expect.due("run", x.run(0), 20);
        // Only cell 1 is set before each run's store in cell 0 or 1; it must not keep the last run's.
        CheckedMachine y = Expect.checked("cells", Steps.set(0, 8), Steps.store(2, 1, 0), Steps.copy(4, 2),
                Steps.and(1, 1), Steps.plusReg(4, 1), Steps.store(4, 0, 1), Steps.load(0, 2, 1), Steps.exit());
        Expect.due("cell stored over", y.run(1), 1);
        Expect.due("cell as it was set", y.run(0), 8);
    }

    private static void theNextStepFollows() {
        Expect.sentence("the next STEP follows if nothing else is said");
        CheckedMachine x = new CheckedMachine();
        Expect.addTo(x, Steps.set(0, 0));
        for (int i = 1; i < 23; i++) {
            Expect.addTo(x, new int[] {2, 0, 0, 1 << i, 0});
        }
        Expect.addTo(x, Steps.exit());
        x.check();
        Expect.due("all 24 steps", x.run(0), (1 << 23) - 2);
        Expect.due("steps run", x.count(5), 24);
    }

    private static void setAndCopy() {
        Expect.sentence("0 SET: D is n. 1 COPY: D is S.");
        for (int n : INTS) {
            Expect.due("set " + n, onArgument(Steps.set(0, n)).run(3), n);
        }
        CheckedMachine x = onArgument(Steps.copy(5, 0), Steps.set(0, 1), Steps.copy(0, 5));
        for (long v : LONGS) {
            Expect.due("copy and back", x.run(v), v);
            Expect.due("copy to itself", onArgument(Steps.copy(0, 0)).run(v), v);
        }
    }

    private static void sums() {
        Expect.sentence("2 ADD n to D, 3 ADD S to D; Longs wrap.");
        for (int n : INTS) {
            CheckedMachine x = onArgument(Steps.plus(0, n));
            CheckedMachine y = onArgument(Steps.set(4, n), Steps.plusReg(0, 4));
            for (long v : LONGS) {
                Expect.due(v + " + n " + n, x.run(v), v + n);
                Expect.due(v + " + S " + n, y.run(v), v + n);
            }
        }
        CheckedMachine twice = onArgument(Steps.plusReg(0, 0));
        Expect.due("least long twice", twice.run(MIN), 0);
        Expect.due("greatest long twice", twice.run(MAX), -2);
        Expect.due("greatest long + 1", onArgument(Steps.plus(0, 1)).run(MAX), MIN);
        Expect.due("least long - 1", onArgument(Steps.plus(0, -1)).run(MIN), MAX);
    }

    private static void differencesAndNegatives() {
        Expect.sentence("4 SUBTRACT S from D. 9 NEGATE D; Longs wrap.");
        CheckedMachine negated = onArgument(Steps.negate(0));
        CheckedMachine itself = onArgument(Steps.minus(0, 0));
        CheckedMachine fromZero = onArgument(Steps.set(0, 0), Steps.minus(0, 1));
        for (long v : LONGS) {
            Expect.due("negated " + v, negated.run(v), -v);
            Expect.due("itself off " + v, itself.run(v), 0);
            Expect.due("0 less " + v, fromZero.run(v), -v);
        }
        Expect.due("the least long negated", negated.run(MIN), MIN);
        CheckedMachine lessOne = onArgument(Steps.set(4, 1), Steps.minus(0, 4));
        Expect.due("the least long less 1", lessOne.run(MIN), MAX);
        CheckedMachine minusOneLess = onArgument(Steps.set(0, -2), Steps.minus(0, 1));
        Expect.due("-2 less the greatest long", minusOneLess.run(MAX), MAX);
    }

    private static void products() {
        Expect.sentence("5 MULTIPLY D by n; Longs wrap.");
        for (int n : INTS) {
            CheckedMachine x = onArgument(Steps.times(0, n));
            for (long v : LONGS) {
                Expect.due(v + " * " + n, x.run(v), v * n);
            }
        }
        Expect.due("greatest long * 2", onArgument(Steps.times(0, 2)).run(MAX), -2);
        Expect.due("least long * -1", onArgument(Steps.times(0, -1)).run(MIN), MIN);
        Expect.due("2^32 * least int", onArgument(Steps.times(0, INT_MIN)).run(1L << 32), MIN);
    }

    private static void masks() {
        Expect.sentence("6 D AND n (as a long).");
        for (long v : LONGS) {
            Expect.due(v + " and -1", onArgument(Steps.and(0, -1)).run(v), v);
            Expect.due(v + " and 0", onArgument(Steps.and(0, 0)).run(v), 0);
        }
        Expect.due("and the least int keeps the upper half", onArgument(Steps.and(0, INT_MIN)).run(-1),
                -(1L << 31));
        Expect.due("and the greatest int", onArgument(Steps.and(0, INT_MAX)).run(-1), INT_MAX);
        Expect.due("the least long and the least int", onArgument(Steps.and(0, INT_MIN)).run(MIN), MIN);
    }

    private static void shifts() {
        Expect.sentence("7 SHIFT D right by n, keeping the sign.");
        for (int n : new int[] {0, 1, 31, 32, 33, 62, 63}) {
            CheckedMachine x = onArgument(Steps.shift(0, n));
            Expect.due("least long >> " + n, x.run(MIN), n == 0 ? MIN : -(1L << (63 - n)));
            Expect.due("greatest long >> " + n, x.run(MAX), n == 0 ? MAX : (1L << (63 - n)) - 1);
            Expect.due("-1 >> " + n, x.run(-1), -1);
            Expect.due("0 >> " + n, x.run(0), 0);
        }
        Expect.due("-5 >> 1", onArgument(Steps.shift(0, 1)).run(-5), -3);
    }

    private static void quotients() {
        Expect.sentence("8 DIVIDE D by n, towards zero.");
        CheckedMachine x = onArgument(Steps.divide(0, 2));
        CheckedMachine y = onArgument(Steps.divide(0, -2));
        for (long v : new long[] {0, 1, 2, 3, 7, MAX}) {
            Expect.due(v + " / 2", x.run(v), v / 2);
            Expect.due(-v + " / 2", x.run(-v), -(v / 2));
            Expect.due(v + " / -2", y.run(v), -(v / 2));
            Expect.due(-v + " / -2", y.run(-v), v / 2);
        }
        Expect.due("least long / -1 wraps", onArgument(Steps.divide(0, -1)).run(MIN), MIN);
        Expect.due("greatest long / -1", onArgument(Steps.divide(0, -1)).run(MAX), -MAX);
        Expect.due("least long / least int", onArgument(Steps.divide(0, INT_MIN)).run(MIN), 1L << 32);
        Expect.due("least long / 1", onArgument(Steps.divide(0, 1)).run(MIN), MIN);
    }

    private static void placesGrow() {
        Expect.sentence("(a PLACE's offset grows by it)");
        // Cell 5 is the argument; the place goes far and comes back to it.
        int[][] goings = {{100, -95}, {-100, 105}, {5, 0}, {-1, 6}};
        for (int[] by : goings) {
            Expect.answers("by n " + by[0], 44, 44, Steps.store(2, 5, 1), Steps.plus(2, by[0]), Steps.plus(2, by[1]),
                    Steps.load(0, 2, 0), Steps.exit());
            Expect.answers("by S " + by[0], 44, 44, Steps.store(2, 5, 1), Steps.set(3, by[0]), Steps.plusReg(2, 3),
                    Steps.set(3, by[1]), Steps.plusReg(2, 3), Steps.load(0, 2, 0), Steps.exit());
            Expect.answers("by S " + by[0] + " and n further on", 44, 44, Steps.store(2, 5, 1), Steps.set(3, by[0]),
                    Steps.plusReg(2, 3), Steps.load(0, 2, by[1]), Steps.exit());
        }
        CheckedMachine x = Expect.machine(Steps.inRow(Steps.list(), Steps.plus(0, 100), Steps.plus(0, -99),
                Steps.load(0, 0, 0), Steps.exit()));
        x.fill(3, 1, 45);
        x.check();
        Expect.due("in a row", x.run(0), 45);
    }

    /** Whether each long is answered by the target's way (1) or the next step's (0); R4 is n. */
    private static void branch(String what, int n, int[] step, long v, boolean taken) {
        Expect.answers(what + " " + n + " of " + v, v, taken ? 1 : 0, Steps.set(4, n), step, Steps.set(0, 0),
                Steps.exit(), Steps.set(0, 1), Steps.exit());
    }

    private static void equal() {
        Expect.sentence("10 EQUAL: is D n?");
        for (int n : INTS) {
            for (long v : LONGS) {
                branch("equal", n, Steps.equal(1, n, 4), v, v == n);
            }
            branch("equal, n and 2^32 more", n, Steps.equal(1, n, 4), n + (1L << 32), false);
        }
    }

    private static void above() {
        Expect.sentence("11 ABOVE: is D above n?");
        for (int n : INTS) {
            for (long v : LONGS) {
                branch("above", n, Steps.above(1, n, 4), v, v > n);
            }
        }
    }

    private static void below() {
        Expect.sentence("12 BELOW: is D below S? If so the TARGET follows.");
        for (int n : INTS) {
            for (long v : LONGS) {
                branch("below", n, Steps.below(1, 4, 4), v, v < n);
                branch("n below", n, Steps.below(4, 1, 4), v, n < v);
            }
        }
        for (long v : LONGS) {
            branch("below itself", 0, Steps.below(1, 1, 4), v, false);
        }
    }

    private static void go() {
        Expect.sentence("13 GO: the TARGET follows.");
        CheckedMachine x = new CheckedMachine();
        Expect.addTo(x, Steps.set(0, 1));
        Expect.addTo(x, Steps.go(23));
        for (int i = 2; i < 23; i++) {
            Expect.addTo(x, Steps.set(0, 2));
        }
        Expect.addTo(x, Steps.exit());
        x.check();
        Expect.due("over 21 steps", x.run(0), 1);
        Expect.due("steps run", x.count(5), 3);
        Expect.answers("to the next step", 0, 2, Steps.set(0, 1), Steps.go(2), Steps.set(0, 2), Steps.exit());
    }

    private static void cellsOfTheFrame() {
        Expect.sentence("14 LOAD: D is the CELL at S's PLACE, n further on. 15 STORE: the CELL at D's PLACE");
        int[][] all = new int[0][];
        for (int c = 0; c < 6; c++) {
            all = Steps.join(all, Steps.list(Steps.set(0, 10 + c), Steps.store(2, c, 0)));
        }
        for (int c = 0; c < 6; c++) {
            Expect.answers("cell " + c, 0, 10 + c, Steps.join(all, Steps.list(Steps.load(0, 2, c), Steps.exit())));
            Expect.answers("cell " + c + " stored over", 99, 99, Steps.join(all,
                    Steps.list(Steps.store(2, c, 1), Steps.load(0, 2, c), Steps.exit())));
            int other = (c + 1) % 6;
            Expect.answers("cell beside " + c, 99, 10 + other, Steps.join(all,
                    Steps.list(Steps.store(2, c, 1), Steps.load(0, 2, other), Steps.exit())));
        }
        // The argument, 0 .. 5, says which cell is meant.
        CheckedMachine x = Expect.checked("one of six", Steps.join(all, Steps.list(Steps.copy(3, 1), Steps.and(3, 5),
                Steps.plusReg(2, 3), Steps.load(0, 2, 0), Steps.exit())));
        for (int c : new int[] {0, 1, 4, 5}) {
            Expect.due("argument " + c, x.run(c), 10 + c);
        }
        Expect.answers("a place keeps its offset in a cell", 7, 7, Steps.store(2, 4, 1), Steps.copy(3, 2),
                Steps.plus(3, -9), Steps.store(2, 0, 3), Steps.load(4, 2, 0), Steps.load(0, 4, 13), Steps.exit());
    }

    private static void cellsOfARow() {
        Expect.sentence("offset 0 of ROW number R1");
        // R5, the argument's 8, says which cell of the row is meant, and is stored there.
        CheckedMachine x = Expect.machine(Steps.copy(5, 1), Steps.shift(5, 3), Steps.and(5, 1), Steps.and(1, 7),
                Steps.find(), Steps.equal(0, 0, 11), Steps.plusReg(0, 5), Steps.load(4, 0, 0), Steps.store(0, 0, 5),
                Steps.copy(0, 4), Steps.exit(), Steps.set(0, -1), Steps.exit());
        x.check();
        for (int i = 0; i < 12; i++) {
            x.fill(i / 2, i % 2, 100 + i);
        }
        for (int i = 0; i < 12; i++) {
            Expect.due("row " + i / 2 + ", cell " + i % 2, x.run(i / 2 + 8 * (i % 2)), 100 + i);
            Expect.due("stored there", x.row(i / 2, i % 2), i % 2);
            Expect.due("next one", i == 11 ? 0 : x.row((i + 1) / 2, (i + 1) % 2), i == 11 ? 0 : 101 + i);
        }
        Expect.due("no row 6", x.run(6), -1);
        Expect.due("no row 7", x.run(15), -1);
    }

    private static void countCalls() {
        Expect.sentence("0 COUNT: R0 is how often COUNT was called before (in all runs) modulo 100.");
        CheckedMachine x = Expect.checked("COUNT", Steps.countCalls(), Steps.exit());
        for (int i = 0; i < 203; i++) {
            Expect.due("call " + i, x.run(0), i % 100);
        }
        Expect.due("calls", x.count(6), 203);
        Expect.addTo(x, Steps.exit());
        x.check();
        Expect.due("after add and check", x.run(0), 3);
        Expect.due("another object's", Expect.checked("COUNT", Steps.countCalls(), Steps.exit()).run(0), 0);
        CheckedMachine y = Expect.checked("COUNT where the argument is above 0", Steps.set(0, -1), Steps.above(1, 0, 3),
                Steps.exit(), Steps.countCalls(), Steps.countCalls(), Steps.exit());
        Expect.due("way without COUNT", y.run(0), -1);
        Expect.due("calls", y.count(6), 0);
        Expect.due("second call in a run", y.run(1), 1);
        Expect.due("calls", y.count(6), 2);
    }

    private static void find() {
        Expect.sentence("1 FIND: R0 is offset 0 of ROW number R1, or 0 if that is 6 or 7.");
        CheckedMachine x = Expect.machine(Steps.and(1, 7), Steps.find(), Steps.equal(0, 0, 5), Steps.load(0, 0, 0),
                Steps.exit(), Steps.plus(0, -1), Steps.exit());
        x.check();
        for (int r = 0; r < 6; r++) {
            x.fill(r, 0, 50 + r);
            x.fill(r, 1, 70 + r);
        }
        for (int key = 0; key <= 7; key++) {
            Expect.due("find " + key, x.run(key), key < 6 ? 50 + key : -1);
        }
    }

    private static void greater() {
        Expect.sentence("2 GREATER: R0 is the greater of R1 and R2.");
        for (int n : INTS) {
            CheckedMachine x = Expect.checked("greater", Steps.set(2, n), Steps.greater(), Steps.exit());
            CheckedMachine y = Expect.checked("greater", Steps.copy(2, 1), Steps.set(1, n), Steps.greater(),
                    Steps.exit());
            for (long v : LONGS) {
                Expect.due("of " + v + " and " + n, x.run(v), v > n ? v : n);
                Expect.due("of " + n + " and " + v, y.run(v), v > n ? v : n);
            }
        }
    }

    private static void exit() {
        Expect.sentence("17 EXIT: the answer is R0.");
        Expect.answers("whatever D and S say", 9, 3, Steps.set(0, 3), Steps.set(4, 5), new int[] {17, 4, 4, 6, 0});
        Expect.answers("the first exit on the way", 9, 3, Steps.set(0, 3), Steps.exit(), Steps.set(0, 4),
                Steps.exit());
    }

    private static void refusedRun(String what, CheckedMachine x) {
        int steps = x.count(5);
        int calls = x.count(6);
        Expect.thrown(what + ", run", () -> x.run(0), Expect.ILLEGAL_STATE);
        Expect.due(what + ", steps run", x.count(5), steps);
        Expect.due(what + ", COUNT's calls", x.count(6), calls);
    }

    private static void runNeedsACheckedProgram() {
        Expect.sentence("RUNS the program with the ARGUMENT; it isn't CHECKED: IllegalStateException.");
        CheckedMachine x = new CheckedMachine();
        refusedRun("no steps", x);
        Expect.addTo(x, Steps.countCalls());
        Expect.addTo(x, Steps.exit());
        refusedRun("not yet checked", x);
        x.check();
        Expect.due("checked", x.run(0), 0);
        Expect.due("checked, and again", x.run(0), 1);
        Expect.putIn(x, 1, Steps.exit());
        refusedRun("after put", x);
        x.check();
        x.cut(2);
        refusedRun("after cut", x);
        x.check();
        Expect.addTo(x, Steps.exit());
        refusedRun("after add", x);
        x.cut(1);
        Expect.thrown("rejected", () -> x.check(), Expect.ILLEGAL_ARGUMENT);
        refusedRun("rejected", x);
        CheckedMachine y = Programs.forks(7);
        Expect.thrown("too long", () -> y.check(), Expect.UNSUPPORTED);
        refusedRun("too long", y);
    }
}
