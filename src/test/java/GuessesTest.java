/** Promises 5 and 9: what the checker makes of each step, seen by the outcomes. */
public final class GuessesTest {
    private static final long MIN = Expect.MIN;
    private static final long MAX = Expect.MAX;
    private static final int INT_MIN = Integer.MIN_VALUE;
    private static final int INT_MAX = Integer.MAX_VALUE;

    public static void main(String[] args) {
        outcomeNeedsACheck();
        sums();
        differences();
        products();
        masks();
        shiftsAndQuotients();
        negatives();
        equals();
        above();
        below();
        cells();
        calls();
        severalExits();
        Expect.end();
    }

    /** R0 is lo .. hi, then the steps, then EXIT. */
    private static void from(int lo, int hi, String what, long least, long greatest, int[]... steps) {
        int[][] all = new int[steps.length + 4][];
        all[0] = Steps.copy(0, 1);
        all[1] = Steps.and(0, hi - lo);
        all[2] = Steps.plus(0, lo);
        System.arraycopy(steps, 0, all, 3, steps.length);
        all[steps.length + 3] = Steps.exit();
        Expect.outcomes(lo + " .. " + hi + " " + what, least, greatest, all);
    }

    /** R0 is any long, then the steps, then EXIT. */
    private static void fromAny(String what, long least, long greatest, int[]... steps) {
        int[][] all = new int[steps.length + 2][];
        all[0] = Steps.copy(0, 1);
        System.arraycopy(steps, 0, all, 1, steps.length);
        all[steps.length + 1] = Steps.exit();
        Expect.outcomes("any " + what, least, greatest, all);
    }

    private static void outcomeNeedsACheck() {
        CheckedMachine x = Expect.machine(Steps.set(0, 4), Steps.exit());
        Expect.thrown("outcome before check", () -> x.outcome(false), Expect.ILLEGAL_STATE);
        x.check();
        Expect.due("outcome", x.outcome(false), 4);
        Expect.due("outcome", x.outcome(true), 4);
        x.run(3);
        Expect.due("outcome after run", x.outcome(true), 4);
    }

    private static void sums() {
        from(-3, 4, "+ 5", 2, 9, Steps.plus(0, 5));
        from(-3, 4, "+ itself", -6, 8, Steps.plusReg(0, 0));
        from(-3, 4, "+ any", MIN, MAX, Steps.plusReg(0, 1));
        fromAny("+ 0", MIN, MAX, Steps.plus(0, 0));
        // Half of any long is -2^62 .. 2^62 - 1.
        fromAny("half, twice", MIN, MAX - 1, Steps.shift(0, 1), Steps.plusReg(0, 0));
        fromAny("half, twice, + 1", MIN + 1, MAX, Steps.shift(0, 1), Steps.plusReg(0, 0), Steps.plus(0, 1));
        fromAny("half, twice, + 2", MIN, MAX, Steps.shift(0, 1), Steps.plusReg(0, 0), Steps.plus(0, 2));
        fromAny("half, twice, - 1", MIN, MAX, Steps.shift(0, 1), Steps.plusReg(0, 0), Steps.plus(0, -1));
    }

    private static void differences() {
        from(-3, 4, "- itself", -7, 7, Steps.minus(0, 0));
        from(-3, 4, "- 10", -13, -6, Steps.set(3, 10), Steps.minus(0, 3));
        from(-3, 4, "- any", MIN, MAX, Steps.minus(0, 1));
        fromAny("- 0", MIN, MAX, Steps.set(3, 0), Steps.minus(0, 3));
        int[] one = Steps.set(3, 1);
        fromAny("half - itself", MIN + 1, MAX, Steps.shift(0, 1), Steps.minus(0, 0));
        fromAny("half - itself - 1", MIN, MAX - 1, Steps.shift(0, 1), Steps.minus(0, 0), one, Steps.minus(0, 3));
        fromAny("half - itself - 1 - 1", MIN, MAX, Steps.shift(0, 1), Steps.minus(0, 0), one, Steps.minus(0, 3),
                Steps.minus(0, 3));
        fromAny("half - itself + 1", MIN, MAX, Steps.shift(0, 1), Steps.minus(0, 0), Steps.set(3, -1),
                Steps.minus(0, 3));
    }

    private static void products() {
        from(-3, 4, "* 5", -15, 20, Steps.times(0, 5));
        from(-3, 4, "* -5", -20, 15, Steps.times(0, -5));
        from(-3, 4, "* 0", 0, 0, Steps.times(0, 0));
        fromAny("* 0", MIN, MAX, Steps.times(0, 0));
        // One end within 2^31, the other far off
        fromAny("0 and above, * 1", MIN, MAX, Steps.above(0, -1, 3), Steps.set(0, 0), Steps.times(0, 1));
        fromAny("0 and below, * 1", MIN, MAX, Steps.above(0, 0, 4), Steps.times(0, 1), Steps.go(5), Steps.set(0, 0));
        fromAny(">> 32, * least int", -(1L << 62) + (1L << 31), 1L << 62, Steps.shift(0, 32),
                Steps.times(0, INT_MIN));
        Expect.outcomes("2^31 times", -(1L << 62), -(1L << 62), Steps.set(0, INT_MAX), Steps.plus(0, 1),
                Steps.times(0, INT_MIN), Steps.exit());
        Expect.outcomes("2^31 + 1 times", MIN, MAX, Steps.set(0, INT_MAX), Steps.plus(0, 2), Steps.times(0, 1),
                Steps.exit());
        Expect.outcomes("-2^31 times", 1L << 62, 1L << 62, Steps.set(0, INT_MIN), Steps.times(0, INT_MIN),
                Steps.exit());
        Expect.outcomes("-2^31 - 1 times", MIN, MAX, Steps.set(0, INT_MIN), Steps.plus(0, -1), Steps.times(0, 1),
                Steps.exit());
    }

    private static void masks() {
        fromAny("and 6", 0, 6, Steps.and(0, 6));
        fromAny("and -1", MIN, MAX, Steps.and(0, -1));
        from(0, 3, "and 6", 0, 3, Steps.and(0, 6));
        from(1, 9, "and 6", 0, 6, Steps.and(0, 6));
        from(-1, 2, "and 6", 0, 6, Steps.and(0, 6));
        from(0, 3, "and -2", MIN, MAX, Steps.and(0, -2));
        Expect.outcomes("-3 and -2", -4, -4, Steps.set(0, -3), Steps.and(0, -2), Steps.exit());
        Expect.outcomes("13 and 6", 4, 4, Steps.set(0, 13), Steps.and(0, 6), Steps.exit());
    }

    private static void shiftsAndQuotients() {
        from(-3, 4, ">> 1", -2, 2, Steps.shift(0, 1));
        from(-3, 4, ">> 0", -3, 4, Steps.shift(0, 0));
        fromAny(">> 63", -1, 0, Steps.shift(0, 63));
        from(-7, 8, "/ 3", -2, 2, Steps.divide(0, 3));
        from(-7, 8, "/ -3", -2, 2, Steps.divide(0, -3));
        from(-7, 8, "/ -1", -8, 7, Steps.divide(0, -1));
        from(4, 11, "/ -4", -2, -1, Steps.divide(0, -4));
        fromAny("/ -1", MIN, MAX, Steps.divide(0, -1));
        fromAny("/ -2", -(1L << 62) + 1, 1L << 62, Steps.divide(0, -2));
        fromAny("/ 1", MIN, MAX, Steps.divide(0, 1));
    }

    private static void negatives() {
        from(-3, 4, "negated", -4, 3, Steps.negate(0));
        fromAny("negated", MIN, MAX, Steps.negate(0));
        fromAny("half - itself, negated", -MAX, MAX, Steps.shift(0, 1), Steps.minus(0, 0), Steps.negate(0));
        // On the way of the target R0 is 0 .. greatest
        Expect.outcomes("0 and above, negated", -MAX, 0, Steps.copy(0, 1), Steps.above(0, -1, 4), Steps.set(0, 0),
                Steps.exit(), Steps.negate(0), Steps.exit());
    }

    private static void equals() {
        // The way of the next step exits with R0, that of the target (step 5) with R0 + 1000.
        int[] end = Steps.plus(0, 1000);
        from(1, 8, "equal 1", 2, 1001, Steps.equal(0, 1, 5), Steps.exit(), end);
        from(1, 8, "equal 4", 1, 1004, Steps.equal(0, 4, 5), Steps.exit(), end);
        from(1, 8, "equal 8", 1, 1008, Steps.equal(0, 8, 5), Steps.exit(), end);
        // The other way round, so that the greatest outcome tells the end that is off.
        from(1, 8, "equal 8, on", 8, 1007, Steps.equal(0, 8, 6), end, Steps.exit());
        from(1, 8, "equal 4, on", 4, 1008, Steps.equal(0, 4, 6), end, Steps.exit());
        int[] wrong = Steps.divide(5, 0);
        from(0, 7, "equal 8, there is no target's way", 0, 7, Steps.equal(0, 8, 5), Steps.exit(), wrong);
        from(0, 7, "equal -1, there is no target's way", 0, 7, Steps.equal(0, -1, 5), Steps.exit(), wrong);
        from(5, 5, "equal 5, there is no next step's way", 1005, 1005, Steps.equal(0, 5, 5), wrong, end);
        fromAny("equal greatest int", MIN, MAX, Steps.equal(0, INT_MAX, 2));
    }

    private static void above() {
        from(0, 7, "above 3", -3, 7, Steps.above(0, 3, 5), Steps.negate(0));
        from(0, 7, "above 3, target", -7, 3, Steps.above(0, 3, 5), Steps.go(6), Steps.negate(0));
        from(0, 7, "above 6", -6, 7, Steps.above(0, 6, 5), Steps.negate(0));
        from(0, 7, "above 7", -7, 0, Steps.above(0, 7, 5), Steps.negate(0));
        from(0, 7, "above 0", 0, 7, Steps.above(0, 0, 5), Steps.negate(0));
        from(0, 7, "above -1", 0, 7, Steps.above(0, -1, 5), Steps.negate(0));
        fromAny("above greatest int", -(long) INT_MAX, MAX, Steps.above(0, INT_MAX, 5), Steps.above(0, -1, 4),
                Steps.set(0, 0), Steps.negate(0));
    }

    private static void below() {
        // R0 0 .. 7, R3 4 .. 5
        int[][] three = {Steps.copy(3, 1), Steps.and(3, 1), Steps.plus(3, 4)};
        from(0, 7, "below 4 .. 5, on: D", -7, 4, three[0], three[1], three[2], Steps.below(0, 3, 8),
                Steps.negate(0));
        from(0, 7, "below 4 .. 5, target: D", -4, 7, three[0], three[1], three[2], Steps.below(0, 3, 8),
                Steps.go(9), Steps.negate(0));
        from(0, 7, "4 .. 5 below it, on: S", -5, 7, three[0], three[1], three[2], Steps.below(3, 0, 8),
                Steps.negate(0));
        from(0, 7, "4 .. 5 below it, target: S", -7, 5, three[0], three[1], three[2], Steps.below(3, 0, 8),
                Steps.go(9), Steps.negate(0));
        from(0, 7, "below itself", -7, 0, Steps.below(0, 0, 5), Steps.negate(0));
        from(0, 7, "below 8", 0, 7, Steps.set(3, 8), Steps.below(0, 3, 6), Steps.negate(0));
        from(0, 7, "below 0", -7, 0, Steps.set(3, 0), Steps.below(0, 3, 6), Steps.negate(0));
        from(0, 7, "below 7", -7, 6, Steps.set(3, 7), Steps.below(0, 3, 6), Steps.negate(0));
        fromAny("below any: not the greatest", MIN, MAX, Steps.copy(3, 1), Steps.below(0, 3, 4), Steps.negate(0));
        Expect.outcomes("below any, target: least is one above the least", -MAX, MAX, Steps.set(0, 0),
                Steps.copy(4, 1), Steps.below(4, 1, 4), Steps.exit(), Steps.copy(0, 1), Steps.negate(0),
                Steps.exit());
    }

    private static void cells() {
        // R4 is a place 0 .. 1 of the frame, cell 0 is 50, cell 1 is -60 .. -59, R1 is 0 .. 1
        int[][] start = {Steps.copy(4, 2), Steps.and(1, 1), Steps.plusReg(4, 1), Steps.set(0, 50),
            Steps.store(2, 0, 0), Steps.copy(0, 1), Steps.plus(0, -60), Steps.store(2, 1, 0)};
        cell("cell 0", 50, 50, start, Steps.load(0, 2, 0));
        cell("cell 1", -60, -59, start, Steps.load(0, 2, 1));
        cell("either", -60, 50, start, Steps.load(0, 4, 0));
        cell("stored in either, cell 0", 0, 50, start, Steps.store(4, 0, 1), Steps.load(0, 2, 0));
        cell("stored in either, cell 1", -60, 1, start, Steps.store(4, 0, 1), Steps.load(0, 2, 1));
        cell("stored in one", 0, 1, start, Steps.store(2, 0, 1), Steps.load(0, 2, 0));
        cell("stored 70 in 1 .. 2, cell 1", -60, 70, start, Steps.set(0, 70), Steps.store(4, 1, 0),
                Steps.load(0, 2, 1));
        cell("stored 70 in 1 .. 2, cell 0", 50, 50, start, Steps.set(0, 70), Steps.store(4, 1, 0),
                Steps.load(0, 2, 0));
        // R1 is 0 .. 1, cells 2 and 3 are 7 and 0 .. 1
        int[][] more = {Steps.set(0, 7), Steps.store(2, 2, 0), Steps.store(2, 3, 1)};
        cell("1 .. 2", -60, 7, start, more[0], more[1], Steps.load(0, 4, 1));
        cell("2 .. 3", 0, 7, start, more[0], more[1], more[2], Steps.load(0, 4, 2));
        cell("6 .. 7 less 4", 0, 7, start, more[0], more[1], more[2], Steps.plus(4, 6), Steps.load(0, 4, -4));
        cell("stored 0 .. 1 in 2 .. 3", 0, 7, start, more[0], more[1], more[2], Steps.store(4, 2, 1),
                Steps.load(0, 2, 2));
        cell("stored 7 in 2 .. 3", 0, 7, start, more[0], more[1], more[2], Steps.store(4, 2, 0), Steps.load(0, 2, 3));
        cell("stored 30 in either, cell 0", 30, 50, start, Steps.set(0, 30), Steps.store(4, 0, 0),
                Steps.load(0, 2, 0));
        cell("stored 30 in either, cell 1", -60, 30, start, Steps.set(0, 30), Steps.store(4, 0, 0),
                Steps.load(0, 2, 1));
        cell("either, the second's end", 0, 51, start, Steps.copy(0, 1), Steps.plus(0, 50), Steps.store(2, 1, 0),
                Steps.store(2, 0, 1), Steps.load(0, 4, 0));
        cell("place loaded into its own register", 50, 50, start, Steps.load(2, 2, 0), Steps.copy(0, 2));
        cell("either loaded into the place's register", -60, 50, start, Steps.load(4, 4, 0), Steps.copy(0, 4));
        Expect.outcomes("a row's cell", MIN, MAX, Steps.set(1, 2), Steps.find(), Steps.equal(0, 0, 4),
                Steps.load(0, 0, 1), Steps.exit());
    }

    private static void cell(String what, long least, long greatest, int[][] start, int[]... steps) {
        int[][] all = new int[start.length + steps.length + 1][];
        System.arraycopy(start, 0, all, 0, start.length);
        System.arraycopy(steps, 0, all, start.length, steps.length);
        all[all.length - 1] = Steps.exit();
        Expect.outcomes(what, least, greatest, all);
    }

    private static void calls() {
        Expect.outcomes("COUNT", 0, 99, Steps.countCalls(), Steps.exit());
        Expect.outcomes("GREATER of 0 .. 7 and 3", 3, 7, Steps.and(1, 7), Steps.set(2, 3), Steps.greater(),
                Steps.exit());
        Expect.outcomes("GREATER of 0 .. 7 and 9", 9, 9, Steps.and(1, 7), Steps.set(2, 9), Steps.greater(),
                Steps.exit());
        Expect.outcomes("GREATER of 0 .. 7 and any", 0, MAX, Steps.copy(2, 1), Steps.and(1, 7), Steps.greater(),
                Steps.exit());
        Expect.outcomes("FIND, target", 0, 0, Steps.set(1, 2), Steps.find(), Steps.equal(0, 0, 4),
                Steps.set(0, 0), Steps.exit());
    }

    private static void severalExits() {
        Expect.outcomes("far exits", -500, 900, Steps.above(1, 0, 3), Steps.set(0, -500), Steps.exit(),
                Steps.above(1, 5, 6), Steps.set(0, 900), Steps.exit(), Steps.set(0, 10), Steps.exit());
        CheckedMachine x = Expect.machine(Steps.set(0, 900), Steps.exit());
        x.check();
        Expect.putIn(x, 0, Steps.set(0, 3));
        x.check();
        Expect.due("outcomes begin anew", x.outcome(true), 3);
        x.check();
        Expect.due("checked anew", x.outcome(true), 3);
    }
}
