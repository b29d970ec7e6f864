/** What comes of each step that doesn't jump, at its edges, sentence by sentence. */
public final class EdgesOfGuessesTest {
    private static final long MIN = Expect.MIN;
    private static final long MAX = Expect.MAX;
    private static final long P31 = 1L << 31;
    private static final long P62 = 1L << 62;
    private static final int INT_MIN = Integer.MIN_VALUE;
    private static final int INT_MAX = Integer.MAX_VALUE;

    public static void main(String[] args) {
        theBeginning();
        set();
        copy();
        addNumber();
        addRegister();
        addToOffsets();
        subtract();
        multiply();
        multiplyFar();
        maskOfOneNumber();
        maskOfSeveral();
        shift();
        divide();
        divideTheLeast();
        negate();
        loadFromOneCell();
        loadFromMore();
        loadFromARow();
        storeInOneCell();
        storeInMore();
        storeInARow();
        calls();
        Expect.end();
    }

    /** After the first steps R3 is as they make it; then the steps, then R3 is answered. */
    private static void comes(String what, long lo, long hi, int[][] first, int[]... steps) {
        Expect.outcomes(what, lo, hi, Steps.join(first, steps, Steps.list(Steps.copy(0, 3), Steps.exit())));
    }

    private static int[][] just(int n) {
        return Steps.list(Steps.set(3, n));
    }

    private static int[][] between(int lo, int hi) {
        return Steps.range(3, lo, hi);
    }

    private static void theBeginning() {
        Expect.sentence("It begins with R1 ANY, R2 the FRAME PLACE 0 .. 0, all else EMPTY, at STEP 0");
        comes("R1", MIN, MAX, Steps.list(Steps.copy(3, 1)));
        comes("R2 and cell 5", 7, 7, just(7), Steps.store(2, 5, 3), Steps.load(3, 2, 5));
        Expect.rejected("R2 and cell -1", 5, 0, 1, Steps.store(2, -1, 1));
        Expect.rejected("R2 and cell 6", 5, 0, 1, Steps.store(2, 6, 1));
        for (int r : new int[] {0, 3, 4, 5}) {
            Expect.rejected("R" + r, 2, 0, 1, Steps.copy(0, r));
        }
        for (int c = 0; c <= 5; c++) {
            Expect.rejected("cell " + c, 6, 0, 1, Steps.load(0, 2, c));
        }
        CheckedMachine x = Expect.machine(Steps.plus(2, 1), Steps.store(2, 4, 1), Steps.set(1, 2), Steps.set(0, 1),
                Steps.exit());
        for (int i = 0; i < 3; i++) {
            Expect.due("checked anew", x.check(), 5);
        }
        Expect.putIn(x, 1, Steps.load(0, 2, 4));
        Expect.thrown("cells are empty again", () -> x.check(), Expect.ILLEGAL_ARGUMENT);
        Expect.due("cells are empty again, reason", x.count(2), 6);
        Expect.putIn(x, 1, Steps.copy(3, 0));
        Expect.thrown("registers are empty again", () -> x.check(), Expect.ILLEGAL_ARGUMENT);
        Expect.due("registers are empty again, reason", x.count(2), 2);
        Expect.putIn(x, 1, Steps.copy(0, 1));
        Expect.putIn(x, 3, Steps.copy(3, 0));
        x.check();
        Expect.due("R1 is any again", x.outcome(true), MAX);
    }

    private static void set() {
        Expect.sentence("SET: n .. n.");
        for (int n : new int[] {INT_MIN, -1, 0, 1, INT_MAX}) {
            comes("n " + n, n, n, just(n));
            comes("n " + n + " over others", n, n, between(-9, 9), Steps.set(3, n));
        }
        comes("over a place", 4, 4, Steps.list(Steps.copy(3, 2)), Steps.set(3, 4));
    }

    private static void copy() {
        Expect.sentence("COPY: the same.");
        comes("a range", -9, 9, between(-9, 9), Steps.copy(4, 3), Steps.set(3, 1), Steps.copy(3, 4));
        comes("to itself", -9, 9, between(-9, 9), Steps.copy(3, 3));
        comes("a place keeps its offsets", 7, 7, just(7), Steps.plus(2, -30), Steps.store(2, 35, 3), Steps.copy(4, 2),
                Steps.set(2, 0), Steps.set(3, 0), Steps.load(3, 4, 35));
        Expect.rejected("a place keeps its offsets, cell 6", 5, 2, 3, Steps.plus(2, 1), Steps.copy(4, 2),
                Steps.store(4, 5, 1));
        Expect.rejected("what may be missing stays so, though its copy is found", 4, 4, 5, Steps.set(1, 0),
                Steps.find(), Steps.copy(4, 0), Steps.equal(4, 0, 5), Steps.load(5, 0, 0), Steps.set(0, 1),
                Steps.exit());
    }

    private static void addNumber() {
        Expect.sentence("ADD: lo + n .. hi + n (ANY where lo or hi, exactly, is no long)");
        comes("-3 .. 4, + 5", 2, 9, between(-3, 4), Steps.plus(3, 5));
        comes("-3 .. 4, + least int", INT_MIN - 3L, INT_MIN + 4L, between(-3, 4), Steps.plus(3, INT_MIN));
        comes("greatest int, + greatest int", 2L * INT_MAX, 2L * INT_MAX, just(INT_MAX), Steps.plus(3, INT_MAX));
        // Twice half of any long: least .. greatest - 1
        int[][] twice = Steps.join(Steps.half(3), Steps.list(Steps.plusReg(3, 3)));
        comes("least .. greatest - 1, + 0", MIN, MAX - 1, twice, Steps.plus(3, 0));
        comes("least .. greatest - 1, + 1", MIN + 1, MAX, twice, Steps.plus(3, 1));
        comes("least .. greatest - 1, + 2: hi is no long", MIN, MAX, twice, Steps.plus(3, 2));
        comes("least .. greatest - 1, - 1: lo is no long", MIN, MAX, twice, Steps.plus(3, -1));
        comes("that is any, - 1", MIN, MAX, twice, Steps.plus(3, 2), Steps.plus(3, -1));
        comes("greatest, + 0", MAX, MAX, Steps.greatest(3), Steps.plus(3, 0));
        comes("greatest, + 1: neither is a long", MIN, MAX, Steps.greatest(3), Steps.plus(3, 1));
        comes("greatest, - 1", MAX - 1, MAX - 1, Steps.greatest(3), Steps.plus(3, -1));
        comes("greatest, + least int", MAX - P31, MAX - P31, Steps.greatest(3), Steps.plus(3, INT_MIN));
        comes("least, - 1: neither is a long", MIN, MAX, Steps.least(3), Steps.plus(3, -1));
        comes("least, + 1", MIN + 1, MIN + 1, Steps.least(3), Steps.plus(3, 1));
        comes("any, + 1", MIN, MAX, Steps.any(3), Steps.plus(3, 1));
    }

    private static void addRegister() {
        Expect.sentence("or lo + s.lo .. hi + s.hi (ANY where lo or hi, exactly, is no long)");
        comes("-3 .. 4 + 10 .. 12", 7, 16, Steps.join(between(-3, 4), Steps.range(4, 10, 12)), Steps.plusReg(3, 4));
        comes("-3 .. 4 + -12 .. -10", -15, -6, Steps.join(between(-3, 4), Steps.range(4, -12, -10)),
                Steps.plusReg(3, 4));
        comes("-3 .. 4 + itself", -6, 8, between(-3, 4), Steps.plusReg(3, 3));
        comes("half + itself", MIN, MAX - 1, Steps.half(3), Steps.plusReg(3, 3));
        comes("half + half + 1", MIN + 1, MAX, Steps.join(Steps.half(3), Steps.half(4)), Steps.plus(4, 1),
                Steps.plusReg(3, 4));
        comes("half + half + 2: hi is no long", MIN, MAX, Steps.join(Steps.half(3), Steps.half(4)),
                Steps.plus(4, 2), Steps.plusReg(3, 4));
        comes("half + half - 1: lo is no long", MIN, MAX, Steps.join(Steps.half(3), Steps.half(4)),
                Steps.plus(4, -1), Steps.plusReg(3, 4));
        comes("greatest + greatest", MIN, MAX, Steps.greatest(3), Steps.plusReg(3, 3));
        comes("least + least", MIN, MAX, Steps.least(3), Steps.plusReg(3, 3));
        comes("greatest + least", -1, -1, Steps.join(Steps.greatest(3), Steps.least(4)), Steps.plusReg(3, 4));
        comes("least + greatest", -1, -1, Steps.join(Steps.least(3), Steps.greatest(4)), Steps.plusReg(3, 4));
        comes("0 + any", MIN, MAX, just(0), Steps.plusReg(3, 1));
        comes("1 + any", MIN, MAX, just(1), Steps.plusReg(3, 1));
        comes("S stays", 10, 12, Steps.join(between(-3, 4), Steps.range(4, 10, 12)), Steps.plusReg(3, 4),
                Steps.copy(3, 4));
    }

    /** The place in R2 is lo .. hi, which a store that goes n further on must fit with. */
    private static void offsets(String what, int lo, int hi, int[]... steps) {
        for (int n = -lo - 1; n <= 5 - hi + 1; n++) {
            int[][] all = Steps.join(steps, Steps.list(Steps.store(2, n, 1), Steps.set(0, 0), Steps.exit()));
            if (lo + n < 0 || hi + n > 5) {
                Expect.rejected(what + ", store " + n, 5, steps.length, steps.length + 1, all);
            } else {
                Expect.checked(what + ", store " + n, all);
            }
        }
    }

    private static void addToOffsets() {
        Expect.sentence("ADD: lo + n .. hi + n, or lo + s.lo .. hi + s.hi; also of offsets.");
        offsets("+ 3", 3, 3, Steps.plus(2, 3));
        offsets("+ 100", 100, 100, Steps.plus(2, 100));
        offsets("- 100", -100, -100, Steps.plus(2, -100));
        offsets("+ R3, -7", -7, -7, Steps.set(3, -7), Steps.plusReg(2, 3));
        offsets("+ R3, 1 .. 3", 1, 3, Steps.join(between(1, 3), Steps.list(Steps.plusReg(2, 3))));
        offsets("+ R3, 1 .. 3, + 4", 5, 7, Steps.join(between(1, 3),
                Steps.list(Steps.plusReg(2, 3), Steps.plus(2, 4))));
        offsets("+ R3, 1 .. 3, + R3 again", 2, 6, Steps.join(between(1, 3),
                Steps.list(Steps.plusReg(2, 3), Steps.plusReg(2, 3))));
    }

    private static void subtract() {
        Expect.sentence("SUBTRACT: d.lo - s.hi .. d.hi - s.lo.");
        comes("-3 .. 4 - 10 .. 12", -15, -6, Steps.join(between(-3, 4), Steps.range(4, 10, 12)), Steps.minus(3, 4));
        comes("-3 .. 4 - itself", -7, 7, between(-3, 4), Steps.minus(3, 3));
        comes("5 - itself", 0, 0, just(5), Steps.minus(3, 3));
        comes("half - itself", MIN + 1, MAX, Steps.half(3), Steps.minus(3, 3));
        comes("half - (half + 1)", MIN, MAX - 1, Steps.join(Steps.half(3), Steps.half(4)), Steps.plus(4, 1),
                Steps.minus(3, 4));
        comes("half - (half + 2): lo is no long", MIN, MAX, Steps.join(Steps.half(3), Steps.half(4)),
                Steps.plus(4, 2), Steps.minus(3, 4));
        comes("half - (half - 1): hi is no long", MIN, MAX, Steps.join(Steps.half(3), Steps.half(4)),
                Steps.plus(4, -1), Steps.minus(3, 4));
        comes("-1 - least", MAX, MAX, Steps.join(just(-1), Steps.least(4)), Steps.minus(3, 4));
        comes("0 - least: neither is a long", MIN, MAX, Steps.join(just(0), Steps.least(4)), Steps.minus(3, 4));
        comes("-1 - greatest", MIN, MIN, Steps.join(just(-1), Steps.greatest(4)), Steps.minus(3, 4));
        comes("-2 - greatest: neither is a long", MIN, MAX, Steps.join(just(-2), Steps.greatest(4)),
                Steps.minus(3, 4));
        comes("least - least", 0, 0, Steps.join(Steps.least(3), Steps.least(4)), Steps.minus(3, 4));
        comes("0 - any", MIN, MAX, just(0), Steps.minus(3, 1));
        comes("-1 - any, which are longs", MIN, MAX, just(-1), Steps.minus(3, 1));
    }

    private static void multiply() {
        Expect.sentence("MULTIPLY: between lo * n and hi * n");
        comes("-3 .. 4 * 5", -15, 20, between(-3, 4), Steps.times(3, 5));
        comes("-3 .. 4 * -5", -20, 15, between(-3, 4), Steps.times(3, -5));
        comes("3 .. 4 * -5", -20, -15, between(3, 4), Steps.times(3, -5));
        comes("-3 .. 4 * 0", 0, 0, between(-3, 4), Steps.times(3, 0));
        comes("-3 .. 4 * 1", -3, 4, between(-3, 4), Steps.times(3, 1));
        comes("-3 .. 4 * -1", -4, 3, between(-3, 4), Steps.times(3, -1));
        comes("greatest int * greatest int", (long) INT_MAX * INT_MAX, (long) INT_MAX * INT_MAX, just(INT_MAX),
                Steps.times(3, INT_MAX));
    }

    private static void multiplyFar() {
        Expect.sentence("if lo and hi are -2^31 .. 2^31, else ANY.");
        comes("2^31", -P62, -P62, just(INT_MAX), Steps.plus(3, 1), Steps.times(3, INT_MIN));
        comes("2^31 + 1", MIN, MAX, just(INT_MAX), Steps.plus(3, 2), Steps.times(3, 1));
        comes("-2^31", P62, P62, just(INT_MIN), Steps.times(3, INT_MIN));
        comes("-2^31 - 1", MIN, MAX, just(INT_MIN), Steps.plus(3, -1), Steps.times(3, 1));
        // Any long >> 32 is -2^31 .. 2^31 - 1.
        int[][] ints = Steps.list(Steps.copy(3, 1), Steps.shift(3, 32));
        int[][] wide = Steps.join(ints, Steps.range(4, 0, 1), Steps.list(Steps.plusReg(3, 4)));
        comes("-2^31 .. 2^31", -P62, P62, wide, Steps.times(3, INT_MIN));
        comes("-2^31 .. 2^31, * 0", 0, 0, wide, Steps.times(3, 0));
        comes("-2^31 + 1 .. 2^31 + 1", MIN, MAX, wide, Steps.plus(3, 1), Steps.times(3, 0));
        comes("-2^31 - 1 .. 2^31 - 1", MIN, MAX, wide, Steps.plus(3, -1), Steps.times(3, 0));
        comes("any, * 0", MIN, MAX, Steps.any(3), Steps.times(3, 0));
        comes("2^32", MIN, MAX, just(INT_MAX), Steps.plus(3, 1), Steps.plusReg(3, 3), Steps.times(3, 0));
    }

    private static void maskOfOneNumber() {
        Expect.sentence("AND: lo = hi: the outcome");
        comes("13 and 6", 4, 4, just(13), Steps.and(3, 6));
        comes("-3 and -2", -4, -4, just(-3), Steps.and(3, -2));
        comes("-1 and least int", INT_MIN, INT_MIN, just(-1), Steps.and(3, INT_MIN));
        comes("least long and -1", MIN, MIN, Steps.least(3), Steps.and(3, -1));
        comes("greatest long and -1", MAX, MAX, Steps.greatest(3), Steps.and(3, -1));
        comes("8 and 7", 0, 0, just(8), Steps.and(3, 7));
    }

    private static void maskOfSeveral() {
        Expect.sentence("else for n not below 0: 0 .. n, or 0 .. the lesser of n and d.hi, if d.lo isn't "
                + "below 0; else ANY");
        comes("-1 .. 3 and 6: d.lo is below 0", 0, 6, between(-1, 3), Steps.and(3, 6));
        comes("-1 .. 0 and 6", 0, 6, between(-1, 0), Steps.and(3, 6));
        comes("-5 .. -4 and 6", 0, 6, between(-5, -4), Steps.and(3, 6));
        comes("0 .. 3 and 6", 0, 3, between(0, 3), Steps.and(3, 6));
        comes("0 .. 6 and 6", 0, 6, between(0, 6), Steps.and(3, 6));
        comes("0 .. 7 and 6", 0, 6, between(0, 7), Steps.and(3, 6));
        comes("6 .. 7 and 6, from 0 on", 0, 6, between(6, 7), Steps.and(3, 6));
        comes("2 .. 3 and 6, from 0 on", 0, 3, between(2, 3), Steps.and(3, 6));
        comes("any and 0", 0, 0, Steps.any(3), Steps.and(3, 0));
        comes("0 .. 7 and 0", 0, 0, between(0, 7), Steps.and(3, 0));
        comes("any and greatest int", 0, INT_MAX, Steps.any(3), Steps.and(3, INT_MAX));
        comes("0 .. 7 and -1", MIN, MAX, between(0, 7), Steps.and(3, -1));
        comes("0 .. 1 and least int", MIN, MAX, between(0, 1), Steps.and(3, INT_MIN));
        comes("-7 .. -6 and -2", MIN, MAX, between(-7, -6), Steps.and(3, -2));
    }

    private static void shift() {
        Expect.sentence("SHIFT: of both ends.");
        comes("-3 .. 4 by 0", -3, 4, between(-3, 4), Steps.shift(3, 0));
        comes("-3 .. 4 by 1", -2, 2, between(-3, 4), Steps.shift(3, 1));
        comes("-3 .. 4 by 63", -1, 0, between(-3, 4), Steps.shift(3, 63));
        comes("any by 1", -P62, P62 - 1, Steps.any(3), Steps.shift(3, 1));
        comes("any by 32", -P31, P31 - 1, Steps.any(3), Steps.shift(3, 32));
        comes("any by 63", -1, 0, Steps.any(3), Steps.shift(3, 63));
        comes("least by 62", -2, -2, Steps.least(3), Steps.shift(3, 62));
        comes("greatest by 62", 1, 1, Steps.greatest(3), Steps.shift(3, 62));
    }

    private static void divide() {
        Expect.sentence("DIVIDE: both ends divided, the lesser first");
        comes("-7 .. 8 by 3", -2, 2, between(-7, 8), Steps.divide(3, 3));
        comes("-7 .. 8 by -3", -2, 2, between(-7, 8), Steps.divide(3, -3));
        comes("-9 .. 5 by 2", -4, 2, between(-9, 5), Steps.divide(3, 2));
        comes("-9 .. 5 by -2", -2, 4, between(-9, 5), Steps.divide(3, -2));
        comes("4 .. 11 by -4", -2, -1, between(4, 11), Steps.divide(3, -4));
        comes("-1 .. 1 by 2", 0, 0, between(-1, 1), Steps.divide(3, 2));
        comes("any by 1", MIN, MAX, Steps.any(3), Steps.divide(3, 1));
        comes("any by 2", -P62, P62 - 1, Steps.any(3), Steps.divide(3, 2));
        comes("any by -2", -P62 + 1, P62, Steps.any(3), Steps.divide(3, -2));
        comes("any by least int", -(1L << 32) + 1, 1L << 32, Steps.any(3), Steps.divide(3, INT_MIN));
    }

    private static void divideTheLeast() {
        Expect.sentence("but ANY for n = -1 and lo the least long.");
        comes("any by -1", MIN, MAX, Steps.any(3), Steps.divide(3, -1));
        comes("least by -1", MIN, MAX, Steps.least(3), Steps.divide(3, -1));
        comes("least + 1 by -1", MAX, MAX, Steps.least(3), Steps.plus(3, 1), Steps.divide(3, -1));
        comes("least by 1", MIN, MIN, Steps.least(3), Steps.divide(3, 1));
        comes("least by -2", P62, P62, Steps.least(3), Steps.divide(3, -2));
        // Twice half of any long: least .. greatest - 1
        int[][] twice = Steps.join(Steps.half(3), Steps.list(Steps.plusReg(3, 3)));
        comes("least .. greatest - 1 by -1", MIN, MAX, twice, Steps.divide(3, -1));
        comes("least + 1 .. greatest by -1", -MAX, MAX, twice, Steps.plus(3, 1), Steps.divide(3, -1));
        comes("-7 .. 8 by -1", -8, 7, between(-7, 8), Steps.divide(3, -1));
    }

    private static void negate() {
        Expect.sentence("NEGATE: -hi .. -lo (ANY if lo is the least long).");
        comes("-3 .. 4", -4, 3, between(-3, 4), Steps.negate(3));
        comes("any", MIN, MAX, Steps.any(3), Steps.negate(3));
        comes("least", MIN, MAX, Steps.least(3), Steps.negate(3));
        comes("least + 1", MAX, MAX, Steps.least(3), Steps.plus(3, 1), Steps.negate(3));
        comes("greatest", -MAX, -MAX, Steps.greatest(3), Steps.negate(3));
        int[][] twice = Steps.join(Steps.half(3), Steps.list(Steps.plusReg(3, 3)));
        comes("least .. greatest - 1", MIN, MAX, twice, Steps.negate(3));
        comes("least + 1 .. greatest", -MAX, MAX, twice, Steps.plus(3, 1), Steps.negate(3));
        comes("half", -P62 + 1, P62, Steps.half(3), Steps.negate(3));
    }

    private static void loadFromOneCell() {
        Expect.sentence("LOAD from one CELL of the FRAME: its GUESS");
        for (int c = 0; c <= 5; c++) {
            comes("a range in cell " + c, -9, 9, between(-9, 9), Steps.store(2, c, 3), Steps.set(3, 0),
                    Steps.load(3, 2, c));
        }
        comes("a place, 5 further on", 8, 8, just(8), Steps.store(2, 5, 3), Steps.plus(2, -20), Steps.store(2, 20, 2),
                Steps.load(4, 2, 20), Steps.set(3, 0), Steps.load(3, 4, 25));
        comes("into the place's own register", 8, 8, just(8), Steps.store(2, 1, 3), Steps.load(2, 2, 1),
                Steps.copy(3, 2));
        Expect.checked("what may be missing", Steps.copy(4, 2), Steps.set(1, 0), Steps.find(), Steps.store(4, 2, 0),
                Steps.load(5, 4, 2), Steps.equal(5, 0, 7), Steps.load(5, 5, 1), Steps.set(0, 1), Steps.exit());
        Expect.rejected("no cell is stored in, though a place is loaded", 6, 4, 5, Steps.copy(3, 2), Steps.plus(3, 3),
                Steps.store(2, 1, 3), Steps.load(5, 2, 1), Steps.load(0, 2, 4), Steps.exit());
        Expect.rejected("what may be missing, not yet known", 4, 5, 6, Steps.copy(4, 2), Steps.set(1, 0),
                Steps.find(), Steps.store(4, 2, 0), Steps.load(5, 4, 2), Steps.load(5, 5, 1), Steps.exit());
    }

    /** Cells 1, 2 and 3 are -9 .. -8, 40 and 5 .. 6; R4 may mean cell 0 or 1, and R1 is 0 .. 1. */
    private static int[][] cells() {
        return Steps.list(Steps.and(1, 1), Steps.copy(3, 1), Steps.plus(3, -9), Steps.store(2, 1, 3), Steps.set(3, 40),
                Steps.store(2, 2, 3), Steps.copy(3, 1), Steps.plus(3, 5), Steps.store(2, 3, 3), Steps.copy(4, 2),
                Steps.plusReg(4, 1));
    }

    private static void loadFromMore() {
        Expect.sentence("from more: from their least lo to their greatest hi");
        comes("cells 1 and 2", -9, 40, cells(), Steps.load(3, 4, 1));
        comes("cells 2 and 3", 5, 40, cells(), Steps.load(3, 4, 2));
        comes("cells 1 to 3", -9, 40, cells(), Steps.plusReg(4, 1), Steps.load(3, 4, 1));
        comes("cells 2 and 3 into the place's own register", 5, 40, cells(), Steps.load(4, 4, 2), Steps.copy(3, 4));
        comes("cells 2 and 3, another place", 5, 40, cells(), Steps.plus(4, 90), Steps.load(3, 4, -88));
        comes("cells 2 and 3, then 2 as it was", 40, 40, cells(), Steps.load(3, 4, 2), Steps.load(3, 2, 2));
        comes("cells 0 and 1", -9, -7, cells(), Steps.set(3, -7), Steps.store(2, 0, 3), Steps.load(3, 4, 0));
        comes("cells 3 and 4, any", MIN, MAX, Steps.join(Steps.list(Steps.copy(5, 1)), cells()),
                Steps.store(2, 4, 5), Steps.load(3, 4, 3));
    }

    private static void loadFromARow() {
        Expect.sentence("of a ROW: ANY");
        for (int c = 0; c <= 1; c++) {
            Expect.outcomes("cell " + c, MIN, MAX, Steps.inRow(Steps.list(Steps.set(5, 9)), Steps.store(0, c, 5),
                    Steps.load(0, 0, c), Steps.exit()));
        }
        Expect.outcomes("one of two cells", MIN, MAX, Steps.inRow(Steps.range(5, 0, 1), Steps.plusReg(0, 5),
                Steps.load(0, 0, 0), Steps.exit()));
    }

    private static void storeInOneCell() {
        Expect.sentence("STORE in one CELL of the FRAME: the GUESS of S");
        comes("over a range", 60, 60, cells(), Steps.set(3, 60), Steps.store(2, 1, 3), Steps.load(3, 2, 1));
        comes("beside it", 40, 40, cells(), Steps.set(3, 60), Steps.store(2, 1, 3), Steps.store(2, 3, 3),
                Steps.load(3, 2, 2));
        comes("over a place", 60, 60, Steps.list(Steps.store(2, 0, 2), Steps.set(3, 60), Steps.store(2, 0, 3)),
                Steps.load(3, 2, 0));
        comes("S stays", 40, 40, cells(), Steps.set(3, 40), Steps.store(2, 1, 3));
        comes("a copy, which later changes of S leave", 60, 60, cells(), Steps.set(3, 60), Steps.store(2, 1, 3),
                Steps.set(3, 1), Steps.load(3, 2, 1));
    }

    private static void storeInMore() {
        Expect.sentence("where more may be meant: each of them that has a RANGE gets the least lo and "
                + "greatest hi of that and s");
        int[][] sixty = Steps.join(cells(), Steps.list(Steps.set(3, 60)));
        comes("60 in 1 and 2, cell 1", -9, 60, sixty, Steps.store(4, 1, 3), Steps.load(3, 2, 1));
        comes("60 in 1 and 2, cell 2", 40, 60, sixty, Steps.store(4, 1, 3), Steps.load(3, 2, 2));
        comes("60 in 1 and 2, cell 3", 5, 6, sixty, Steps.store(4, 1, 3), Steps.load(3, 2, 3));
        comes("60 in 2 and 3, cell 1", -9, -8, sixty, Steps.store(4, 2, 3), Steps.load(3, 2, 1));
        comes("60 in 0 and 1, cell 1", -9, 60, sixty, Steps.store(4, 0, 3), Steps.load(3, 2, 1));
        comes("60 in 1 to 3, cell 2", 40, 60, sixty, Steps.plusReg(4, 1), Steps.store(4, 1, 3), Steps.load(3, 2, 2));
        comes("0 .. 1 in 2 and 3, cell 2", 0, 40, cells(), Steps.store(4, 2, 1), Steps.load(3, 2, 2));
        comes("0 .. 1 in 2 and 3, cell 3", 0, 6, cells(), Steps.store(4, 2, 1), Steps.load(3, 2, 3));
        comes("0 .. 1 in 1 and 2, cell 1", -9, 1, cells(), Steps.store(4, 1, 1), Steps.load(3, 2, 1));
        comes("5 .. 6 in 3 and 4, cell 3", 5, 6, cells(), Steps.store(4, 3, 3), Steps.load(3, 2, 3));
        Expect.sentence("the EMPTY ones stay so");
        for (int cell : new int[] {0, 4}) {
            int[][] steps = Steps.join(sixty, Steps.list(Steps.store(4, cell == 0 ? 0 : 3, 3), Steps.load(3, 2, cell)));
            Expect.rejected("cell " + cell, 6, steps.length - 1, steps.length, steps);
        }
    }

    private static void storeInARow() {
        Expect.sentence("STORE in one CELL of the FRAME (a ROW's STORE changes no CELL of the FRAME)");
        int[][] before = Steps.list(Steps.copy(4, 2), Steps.set(5, 9), Steps.store(2, 0, 5), Steps.set(5, 0));
        Expect.outcomes("0 stored", 0, 9, Steps.inRow(before, Steps.store(0, 0, 5), Steps.load(0, 4, 0),
                Steps.exit()));
        Expect.outcomes("30 stored", 0, 9, Steps.inRow(before, Steps.plus(5, 30), Steps.store(0, 0, 5),
                Steps.load(0, 4, 0), Steps.exit()));
        int[][] either = Steps.join(before, Steps.list(Steps.and(1, 1), Steps.copy(5, 1)));
        Expect.outcomes("0 .. 1 stored in one of two cells", 0, 9, Steps.inRow(either, Steps.plusReg(0, 5),
                Steps.store(0, 0, 5), Steps.load(0, 4, 0), Steps.exit()));
        Expect.outcomes("30 .. 31 stored in one of two cells", 0, 9, Steps.inRow(either, Steps.plusReg(0, 5),
                Steps.plus(5, 30), Steps.store(0, 0, 5), Steps.load(0, 4, 0), Steps.exit()));
        Expect.rejected("an empty cell", 6, 5, 6, Steps.inRow(Steps.list(Steps.copy(4, 2)), Steps.set(5, 1),
                Steps.load(0, 4, 0)));
        Expect.rejected("an empty cell after a store in a row", 6, 6, 7, Steps.inRow(Steps.list(Steps.copy(4, 2)),
                Steps.set(5, 1), Steps.store(0, 1, 5), Steps.load(0, 4, 1)));
    }

    private static void calls() {
        Expect.sentence("COUNT: 0 .. 99.");
        Expect.outcomes("COUNT", 0, 99, Steps.countCalls(), Steps.exit());
        Expect.outcomes("COUNT twice", 0, 99, Steps.countCalls(), Steps.countCalls(), Steps.exit());
        Expect.sentence("FIND: MAYBE.");
        for (int key = 0; key <= 7; key++) {
            Expect.outcomes("FIND " + key, -1, 5, Steps.set(1, key), Steps.find(), Steps.equal(0, 0, 5),
                    Steps.set(0, 5), Steps.exit(), Steps.plus(0, -1), Steps.exit());
        }
        Expect.sentence("GREATER: the greater of the los .. the greater of the his.");
        int[][] bounds = {{0, 7, 3, 5, 3, 7}, {3, 5, 0, 7, 3, 7}, {0, 3, 3, 5, 3, 5}, {4, 7, 0, 3, 4, 7},
            {-5, -4, -3, -2, -3, -2}, {1, 2, 1, 2, 1, 2}};
        for (int[] b : bounds) {
            Expect.outcomes(b[0] + " .. " + b[1] + " and " + b[2] + " .. " + b[3], b[4], b[5],
                    Steps.join(Steps.range(4, b[0], b[1]), Steps.range(5, b[2], b[3]),
                            Steps.list(Steps.copy(1, 4), Steps.copy(2, 5), Steps.greater(), Steps.exit())));
        }
        Expect.outcomes("0 and any", 0, MAX, Steps.set(2, 0), Steps.greater(), Steps.exit());
        Expect.outcomes("any and any", MIN, MAX, Steps.copy(2, 1), Steps.greater(), Steps.exit());
    }
}
