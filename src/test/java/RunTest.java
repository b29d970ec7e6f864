/** Promise 6: run, what each step does. */
public final class RunTest {
    private static final long MIN = Expect.MIN;
    private static final long MAX = Expect.MAX;

    public static void main(String[] args) {
        runNeedsACheck();
        arithmetic();
        jumps();
        frame();
        calls();
        runsBeginAnew();
        Expect.end();
    }

    private static void runNeedsACheck() {
        CheckedMachine x = Expect.machine(Steps.copy(0, 1), Steps.exit());
        Expect.thrown("run before check", () -> x.run(1), Expect.ILLEGAL_STATE);
        x.check();
        Expect.due("run", x.run(MIN), MIN);
        Expect.due("run", x.run(MAX), MAX);
        Expect.due("still checked", x.count(1), 1);
    }

    private static void onArgument(String what, long argument, long want, int[]... steps) {
        int[][] all = new int[steps.length + 2][];
        all[0] = Steps.copy(0, 1);
        System.arraycopy(steps, 0, all, 1, steps.length);
        all[all.length - 1] = Steps.exit();
        Expect.answers(what, argument, want, all);
    }

    private static void arithmetic() {
        onArgument("set", 1, -5, Steps.set(0, -5));
        onArgument("+ n", 1, -4, Steps.plus(0, -5));
        onArgument("+ n wraps", MAX, MIN, Steps.plus(0, 1));
        onArgument("+ S", 21, 42, Steps.plusReg(0, 1));
        onArgument("+ S wraps", MIN, 0, Steps.plusReg(0, 1));
        onArgument("- S", 21, 0, Steps.minus(0, 1));
        onArgument("- S wraps", MIN, MAX, Steps.set(3, 1), Steps.minus(0, 3));
        onArgument("* n", -7, 21, Steps.times(0, -3));
        onArgument("* n wraps", MAX, -2, Steps.times(0, 2));
        onArgument("and n", 0x1234567890L, 0x90L, Steps.and(0, 0xff));
        onArgument("and n as a long", 0x1234567891L, 0x1234567890L, Steps.and(0, -2));
        onArgument(">> n", -5, -3, Steps.shift(0, 1));
        onArgument(">> 63", MIN, -1, Steps.shift(0, 63));
        onArgument("/ n", -7, -3, Steps.divide(0, 2));
        onArgument("/ -n", -7, 3, Steps.divide(0, -2));
        onArgument("/ -1 wraps", MIN, MIN, Steps.divide(0, -1));
        onArgument("negate", 5, -5, Steps.negate(0));
        onArgument("negate wraps", MIN, MIN, Steps.negate(0));
    }

    private static void jumps() {
        for (long v : new long[] {MIN, -1, 4, 5, 6, (1L << 32) + 5, MAX}) {
            branch("equal", v, v == 5, Steps.equal(1, 5, 4));
            branch("above", v, v > 5, Steps.above(1, 5, 4));
            branch("below", v, v < 5, Steps.below(1, 4, 4));
            branch("below itself", v, false, Steps.below(1, 1, 4));
        }
        Expect.answers("go", 0, 1, Steps.set(0, 1), Steps.go(3), Steps.set(0, 2), Steps.exit());
    }

    private static void branch(String what, long argument, boolean taken, int[] step) {
        Expect.answers(what, argument, taken ? 1 : 0, Steps.set(4, 5), step, Steps.set(0, 0), Steps.exit(),
                Steps.set(0, 1), Steps.exit());
    }

    private static void frame() {
        // Writes 10 .. 15 into the cells, then the argument into one of them, and answers cell 3.
        int[][] steps = new int[18][];
        for (int i = 0; i < 6; i++) {
            steps[2 * i] = Steps.set(0, 10 + i);
            steps[2 * i + 1] = Steps.store(2, i, 0);
        }
        steps[12] = Steps.copy(4, 1);
        steps[13] = Steps.and(4, 5);
        steps[14] = Steps.plusReg(2, 4);
        steps[15] = Steps.load(0, 2, 0);
        steps[16] = Steps.exit();
        steps[17] = Steps.exit();
        CheckedMachine x = Expect.checked("frame", steps);
        Expect.due("cell 0", x.run(0), 10);
        Expect.due("cell 1", x.run(1), 11);
        Expect.due("cell 4", x.run(4), 14);
        Expect.due("cell 5", x.run(5), 15);
        Expect.answers("a place kept in the frame", 77, 77, Steps.copy(3, 2), Steps.plus(3, 4),
                Steps.store(2, 0, 3), Steps.load(5, 2, 0), Steps.store(5, -1, 1), Steps.load(0, 2, 3), Steps.exit());
    }

    private static void calls() {
        Expect.answers("greater", 5, 5, Steps.set(2, 3), Steps.greater(), Steps.exit());
        Expect.answers("greater", -5, 3, Steps.set(2, 3), Steps.greater(), Steps.exit());
        Expect.answers("count", 5, 0, Steps.countCalls(), Steps.exit());
        for (int key = 0; key <= 7; key++) {
            Expect.answers("find", key, key < 6 ? 1 : 2, Steps.and(1, 7), Steps.find(), Steps.equal(0, 0, 5),
                    Steps.set(0, 1), Steps.exit(), Steps.set(0, 2), Steps.exit());
        }
        // A row found is told from a missing one again after it was kept in the frame.
        Expect.answers("find, kept", 7, 2, Steps.copy(4, 2), Steps.and(1, 7), Steps.find(), Steps.store(4, 2, 0),
                Steps.load(5, 4, 2), Steps.equal(5, 0, 8), Steps.set(0, 1), Steps.exit(), Steps.set(0, 2),
                Steps.exit());
    }

    private static void runsBeginAnew() {
        // Cell 1 is 8; the argument (0 or 1) is stored in cell 0 or 1; answers cell 1.
        CheckedMachine x = Expect.checked("anew", Steps.set(0, 8), Steps.store(2, 1, 0), Steps.copy(4, 2),
                Steps.and(1, 1), Steps.plusReg(4, 1), Steps.store(4, 0, 1), Steps.load(0, 2, 1), Steps.exit());
        Expect.due("first", x.run(0), 8);
        Expect.due("second", x.run(1), 1);
        Expect.due("third", x.run(0), 8);
    }
}
