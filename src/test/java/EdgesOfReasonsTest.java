/** Each of the reasons 1 to 7 at its edges, and their order, sentence by sentence. */
public final class EdgesOfReasonsTest {
    private static final int INT_MIN = Integer.MIN_VALUE;
    private static final int INT_MAX = Integer.MAX_VALUE;
    private static final int FITS = 0;

    public static void main(String[] args) {
        aStepThatIsThere();
        aTargetThatIsThere();
        aTargetBehind();
        onlyJumpsNeedTargets();
        usedRegistersHoldSomething();
        callsUseTheirRegisters();
        callsEmptyRegisters();
        exitUsesR0();
        numbersOfShift();
        numbersOfDivide();
        numbersOfCall();
        otherNumbersAreFree();
        offsetsOfPlaces();
        offsetsByRegisters();
        sumsOfNumbersAreFree();
        cellsOfTheFrame();
        cellsOfARow();
        cellsFarAway();
        oneCellToLoad();
        severalCellsToLoad();
        rowsToFind();
        risingOrder();
        Expect.end();
    }

    /** The steps are rejected at the last of them, or, if the reason is 0, go through with SET R0 and EXIT behind. */
    private static void judged(String what, int reason, int[]... steps) {
        int[][] all = Steps.join(steps, Steps.list(Steps.set(0, 0), Steps.exit()));
        if (reason == FITS) {
            Expect.checked(what, all);
        } else {
            Expect.rejected(what, reason, steps.length - 1, steps.length, all);
        }
    }

    /** The same with R0 the place of row 3 before the step. */
    private static void judgedInRow(String what, int reason, int[][] before, int[]... body) {
        int[][] all = Steps.inRow(before, Steps.join(body, Steps.list(Steps.set(0, 0), Steps.exit())));
        if (reason == FITS) {
            Expect.checked(what, all);
        } else {
            int at = before.length + 2 + body.length;
            Expect.rejected(what, reason, at, at + 1, all);
        }
    }

    private static int[] jump(int op, int target) {
        return new int[] {op, 1, 1, 0, target};
    }

    private static void aStepThatIsThere() {
        Expect.sentence("1: a STEP that is there (0 .. as many as there are less 1)");
        Expect.rejected("no steps", 1, 0, 1);
        Expect.rejected("one step without exit", 1, 1, 2, Steps.set(0, 1));
        int[][] full = new int[24][];
        for (int i = 0; i < 24; i++) {
            full[i] = Steps.set(0, i);
        }
        Expect.rejected("24 steps without exit", 1, 24, 25, full);
        full[23] = Steps.exit();
        Expect.checked("24 steps with exit", full);
        Expect.rejected("the target's way runs off the end", 1, 4, 5, Steps.set(0, 1), Steps.above(1, 0, 3),
                Steps.exit(), Steps.set(0, 2));
        CheckedMachine x = Expect.machine(Steps.set(0, 1), Steps.exit());
        x.cut(1);
        Expect.thrown("exit cut off", () -> x.check(), Expect.ILLEGAL_ARGUMENT);
        Expect.due("exit cut off, place", x.count(3), 1);
    }

    private static void aTargetThatIsThere() {
        Expect.sentence("of 10 to 13 a TARGET that is there");
        for (int op = 10; op <= 13; op++) {
            Expect.checked("op " + op + ", the last step", Steps.set(0, 1), jump(op, 3), Steps.exit(), Steps.exit());
            Expect.rejected("op " + op + ", behind the last step", 1, 1, 2, Steps.set(0, 1), jump(op, 4),
                    Steps.exit(), Steps.exit());
            Expect.rejected("op " + op + ", 23 of few", 1, 1, 2, Steps.set(0, 1), jump(op, 23), Steps.exit(),
                    Steps.exit());
        }
        // R1 is 5: equal -1 and above 9 can't be, but their targets must be there.
        Expect.rejected("equal, no such way", 1, 1, 2, Steps.set(1, 5), Steps.equal(1, -1, 4), Steps.set(0, 1),
                Steps.exit());
        Expect.rejected("above, no such way", 1, 1, 2, Steps.set(1, 5), Steps.above(1, 9, 4), Steps.set(0, 1),
                Steps.exit());
        Expect.rejected("below itself, no such way", 1, 1, 2, Steps.set(1, 5), Steps.below(1, 1, 4), Steps.set(0, 1),
                Steps.exit());
    }

    private static void aTargetBehind() {
        Expect.sentence("of 10 to 13 a TARGET that is there and behind it");
        for (int op = 10; op <= 13; op++) {
            Expect.checked("op " + op + ", the next step", Steps.set(0, 1), jump(op, 2), Steps.exit());
            Expect.rejected("op " + op + ", itself", 1, 1, 2, Steps.set(0, 1), jump(op, 1), Steps.exit());
            Expect.rejected("op " + op + ", the step before", 1, 1, 2, Steps.set(0, 1), jump(op, 0), Steps.exit());
            Expect.rejected("op " + op + ", step 0 itself", 1, 0, 1, jump(op, 0), Steps.exit());
        }
    }

    private static void onlyJumpsNeedTargets() {
        Expect.sentence("of 10 to 13 a TARGET (of others any)");
        int[][] others = {Steps.set(0, 4), Steps.copy(3, 0), Steps.plus(0, 1), Steps.plusReg(0, 3), Steps.minus(0, 3),
            Steps.times(0, 2), Steps.and(0, 7), Steps.shift(0, 1), Steps.divide(0, 2), Steps.negate(0),
            Steps.store(2, 0, 0), Steps.load(0, 2, 0), Steps.countCalls(), Steps.exit()};
        for (int target : new int[] {0, 23}) {
            for (int[] step : others) {
                step[4] = target;
            }
            Expect.checked("target " + target, others);
        }
    }

    private static final String USE_D = " 2 3 4 5 6 7 8 9 10 11 12 15 ";
    private static final String USE_S = " 1 3 4 12 14 15 ";

    private static void usedRegistersHoldSomething() {
        Expect.sentence("2: D and S hold something, where they are used (0 uses no D, 1 and 14 no D");
        for (int op = 0; op <= 15; op++) {
            int n = op == 7 || op == 8 ? 1 : 0;
            int goodD = op == 15 ? 2 : 1;
            int goodS = op == 14 ? 2 : 1;
            boolean usesD = USE_D.contains(" " + op + " ");
            boolean usesS = USE_S.contains(" " + op + " ");
            for (int empty : new int[] {0, 3, 4, 5}) {
                judged("op " + op + ", D is R" + empty, usesD ? 2 : FITS, Steps.store(2, 0, 1),
                        new int[] {op, empty, goodS, n, 2});
                judged("op " + op + ", S is R" + empty, usesS ? 2 : FITS, Steps.store(2, 0, 1),
                        new int[] {op, goodD, empty, n, 2});
            }
            judged("op " + op + ", neither", FITS, Steps.store(2, 0, 1), new int[] {op, goodD, goodS, n, 2});
        }
    }

    private static void callsUseTheirRegisters() {
        Expect.sentence("16 uses R1 for FIND, R1 and R2 for GREATER");
        int[] clear = Steps.countCalls();
        judged("COUNT", FITS, clear, new int[] {16, 3, 3, 0, 0});
        judged("FIND", 2, clear, Steps.find());
        judged("FIND with R2", 2, clear, Steps.set(2, 0), Steps.find());
        judged("FIND with R1", FITS, clear, Steps.set(1, 0), new int[] {16, 3, 3, 1, 0});
        judged("GREATER", 2, clear, Steps.greater());
        judged("GREATER with R1", 2, clear, Steps.set(1, 0), Steps.greater());
        judged("GREATER with R2", 2, clear, Steps.set(2, 0), Steps.greater());
        judged("GREATER with R1 and R2", FITS, clear, Steps.set(1, 0), Steps.set(2, 0), new int[] {16, 3, 3, 2, 0});
    }

    private static void callsEmptyRegisters() {
        Expect.sentence("Then R1, R2, R3 are EMPTY.");
        int[][] filled = {Steps.set(0, 1), Steps.set(1, 1), Steps.set(2, 1), Steps.set(3, 1), Steps.set(4, 1),
            Steps.set(5, 1)};
        for (int n = 0; n <= 2; n++) {
            for (int r = 0; r <= 5; r++) {
                int reason = r >= 1 && r <= 3 ? 2 : FITS;
                judged("R" + r + " after call " + n, reason,
                        Steps.join(filled, Steps.list(Steps.call(n), Steps.copy(5, r))));
            }
        }
        judged("the frame stays", FITS, Steps.copy(4, 2), Steps.store(2, 0, 1), Steps.store(2, 5, 1),
                Steps.countCalls(), Steps.load(0, 4, 0), Steps.load(0, 4, 5));
    }

    private static void exitUsesR0() {
        Expect.sentence("17 R0");
        Expect.rejected("R0 empty", 2, 0, 1, new int[] {17, 1, 1, 0, 0});
        Expect.rejected("R0 empty, others not", 2, 3, 4, Steps.set(3, 1), Steps.set(4, 1), Steps.set(5, 1),
                new int[] {17, 3, 3, 0, 0});
        Expect.checked("R0 filled, D and S empty", Steps.set(0, 1), new int[] {17, 3, 3, 0, 0});
    }

    private static void numbersOfShift() {
        Expect.sentence("3: a NUMBER that may be: n 0 .. 63 for 7");
        for (int n : new int[] {-1, 64, 65, 127, INT_MIN, INT_MAX}) {
            judged("shift by " + n, 3, Steps.shift(1, n));
        }
        for (int n : new int[] {0, 1, 62, 63}) {
            judged("shift by " + n, FITS, Steps.shift(1, n));
        }
    }

    private static void numbersOfDivide() {
        Expect.sentence("not 0 for 8");
        judged("divide by 0", 3, Steps.divide(1, 0));
        for (int n : new int[] {-1, 1, INT_MIN, INT_MAX}) {
            judged("divide by " + n, FITS, Steps.divide(1, n));
        }
    }

    private static void numbersOfCall() {
        Expect.sentence("0 .. 2 for 16");
        for (int n : new int[] {-1, 3, INT_MIN, INT_MAX}) {
            judged("call " + n, 3, Steps.set(1, 0), Steps.set(2, 0), Steps.call(n));
            judged("call " + n + " with nothing in R1 and R2", 3, Steps.countCalls(), Steps.call(n));
        }
        for (int n = 0; n <= 2; n++) {
            judged("call " + n, FITS, Steps.set(1, 0), Steps.set(2, 0), Steps.call(n));
        }
    }

    private static void otherNumbersAreFree() {
        Expect.sentence("3: a NUMBER that may be (of others any)");
        for (int n : new int[] {INT_MIN, -1, 0, 64, INT_MAX}) {
            for (int op : new int[] {0, 1, 2, 3, 4, 5, 6, 9, 10, 11, 12, 13}) {
                judged("op " + op + ", n " + n, FITS, new int[] {op, 1, 1, n, 1});
            }
            Expect.checked("op 17, n " + n, Steps.set(0, 1), new int[] {17, 0, 0, n, 0});
        }
    }

    private static void offsetsOfPlaces() {
        Expect.sentence("5: of 2 and 3 to a PLACE: the new offsets are -100 .. 100");
        for (int n : new int[] {-101, -100, -1, 0, 1, 100, 101, 6, INT_MIN, INT_MAX}) {
            int reason = n < -100 || n > 100 ? 5 : FITS;
            judged("frame + " + n, reason, Steps.plus(2, n));
            judged("frame + R3, " + n, reason, Steps.set(3, n), Steps.plusReg(2, 3));
            judgedInRow("row + " + n, reason, Steps.list(), Steps.plus(0, n));
            judgedInRow("row + R5, " + n, reason, Steps.list(Steps.set(5, n)), Steps.plusReg(0, 5));
        }
        judged("100 and 1 more", 5, Steps.plus(2, 100), Steps.plus(2, 1));
        judged("-100 and 1 less", 5, Steps.plus(2, -100), Steps.plus(2, -1));
        judged("100 and 200 less", FITS, Steps.plus(2, 100), Steps.plus(2, -200));
        judged("100 and 201 less", 5, Steps.plus(2, 100), Steps.plus(2, -201));
        judged("-100 and 200 more", FITS, Steps.plus(2, -100), Steps.plus(2, 200));
        judged("-100 and the greatest int", 5, Steps.plus(2, -100), Steps.plus(2, INT_MAX));
        judged("-1 and the least int, which an int would wrap", 5, Steps.plus(2, -1), Steps.plus(2, INT_MIN));
    }

    private static void offsetsByRegisters() {
        Expect.sentence("the new offsets (all that may be) are -100 .. 100");
        int[][] bounds = {{0, 100, FITS}, {0, 101, 5}, {-100, 0, FITS}, {-101, 0, 5}, {-100, 100, FITS},
            {-101, 100, 5}, {-100, 101, 5}, {101, 102, 5}, {-102, -101, 5}};
        for (int[] b : bounds) {
            judged("frame + " + b[0] + " .. " + b[1], b[2], Steps.join(Steps.range(3, b[0], b[1]),
                    Steps.list(Steps.plusReg(2, 3))));
            judgedInRow("row + " + b[0] + " .. " + b[1], b[2], Steps.range(5, b[0], b[1]), Steps.plusReg(0, 5));
        }
        judged("3 .. 4 further on + 97", 5, Steps.join(Steps.range(3, 3, 4), Steps.list(Steps.plusReg(2, 3),
                Steps.plus(2, 97))));
        judged("3 .. 4 further on + 96", FITS, Steps.join(Steps.range(3, 3, 4), Steps.list(Steps.plusReg(2, 3),
                Steps.plus(2, 96))));
        int[][] apart = Steps.join(Steps.range(3, -3, 4), Steps.list(Steps.plusReg(2, 3)));
        int[][] further = {{-98, 5}, {-97, FITS}, {96, FITS}, {97, 5}};
        for (int[] by : further) {
            judged("-3 .. 4 + " + by[0], by[1], Steps.join(apart, Steps.list(Steps.plus(2, by[0]))));
            judged("-3 .. 4 + R3, " + by[0], by[1], Steps.join(apart, Steps.list(Steps.set(3, by[0]),
                    Steps.plusReg(2, 3))));
        }
        judged("any", 5, Steps.plusReg(2, 1));
        judged("100 and the greatest long", 5, Steps.join(Steps.list(Steps.plus(2, 100)), Steps.greatest(3),
                Steps.list(Steps.plusReg(2, 3))));
        judged("-100 and the least long", 5, Steps.join(Steps.list(Steps.plus(2, -100)), Steps.least(3),
                Steps.list(Steps.plusReg(2, 3))));
        // Only one end goes far, and beyond all longs: 100 + 0 .. greatest, -100 + least .. 0
        Expect.rejected("100 and 0 or more", 5, 4, 5, Steps.plus(2, 100), Steps.above(1, -1, 4), Steps.set(0, 0),
                Steps.exit(), Steps.plusReg(2, 1), Steps.set(0, 0), Steps.exit());
        judged("-100 and 0 or less", 5, Steps.plus(2, -100), Steps.above(1, 0, 3), Steps.plusReg(2, 1));
        judged("100 and 0 or less", 5, Steps.plus(2, 100), Steps.above(1, 0, 3), Steps.plusReg(2, 1));
        int[][] wide = Steps.join(Steps.range(3, -100, 100), Steps.list(Steps.plusReg(2, 3)));
        judged("-100 .. 100 and 0 or less", 5, Steps.join(wide, Steps.list(Steps.above(1, 0, 6), Steps.plusReg(2, 1))));
        Expect.rejected("-100 .. 100 and 0 or more", 5, 7, 8, Steps.join(wide, Steps.list(Steps.above(1, -1, 7),
                Steps.set(0, 0), Steps.exit(), Steps.plusReg(2, 1), Steps.set(0, 0), Steps.exit())));
    }

    private static void sumsOfNumbersAreFree() {
        Expect.sentence("5: of 2 and 3 to a PLACE");
        judged("a number + 101", FITS, Steps.set(3, 0), Steps.plus(3, 101));
        judged("a number - 101", FITS, Steps.set(3, 0), Steps.plus(3, -101));
        judged("a number + any", FITS, Steps.set(3, 0), Steps.plusReg(3, 1));
    }

    private static void cellsOfTheFrame() {
        Expect.sentence("of 14 and 15: the CELLS that may be meant, lo + n .. hi + n, are all there (0 .. 5");
        for (int n = -2; n <= 7; n++) {
            int reason = n < 0 || n > 5 ? 5 : FITS;
            judged("store in cell " + n, reason, Steps.store(2, n, 1));
            judged("load of cell " + n, reason == FITS ? 6 : reason, Steps.load(0, 2, n));
            judged("store in cell " + n + " from -50", reason, Steps.plus(2, -50), Steps.store(2, n + 50, 1));
            judged("load of cell " + n + " from 50", reason == FITS ? 6 : reason, Steps.plus(2, 50),
                    Steps.load(0, 2, n - 50));
        }
        int[][] twoCells = Steps.join(Steps.range(3, 0, 1), Steps.list(Steps.plusReg(2, 3)));
        for (int n = -3; n <= 7; n++) {
            int reason = n < 0 || n > 4 ? 5 : FITS;
            judged("store in cells " + n + " and one more", reason, Steps.join(twoCells,
                    Steps.list(Steps.store(2, n, 1))));
            judged("load of cells " + n + " and one more", reason == FITS ? 6 : reason, Steps.join(twoCells,
                    Steps.list(Steps.load(0, 2, n))));
        }
        int[][] sixCells = Steps.join(Steps.range(3, 0, 5), Steps.list(Steps.plusReg(2, 3)));
        for (int n = -1; n <= 1; n++) {
            judged("store in six cells from " + n, n == 0 ? FITS : 5, Steps.join(sixCells,
                    Steps.list(Steps.store(2, n, 1))));
        }
        judged("store in one of seven", 5, Steps.join(Steps.range(3, 0, 6), Steps.list(Steps.plusReg(2, 3),
                Steps.store(2, 0, 1))));
    }

    private static void cellsOfARow() {
        Expect.sentence("of a ROW 0 .. 1)");
        int[][] filled = Steps.list(Steps.set(5, 7));
        int[][] oneMore = Steps.join(filled, Steps.range(4, 0, 1));
        for (int n = -2; n <= 3; n++) {
            int reason = n < 0 || n > 1 ? 5 : FITS;
            judgedInRow("store in cell " + n, reason, filled, Steps.store(0, n, 5));
            judgedInRow("load of cell " + n, reason, filled, Steps.load(0, 0, n));
            judgedInRow("store in cell " + n + " from 9", reason, filled, Steps.plus(0, 9), Steps.store(0, n - 9, 5));
            int both = n == 0 ? FITS : 5;
            judgedInRow("store in cells " + n + " and one more", both, oneMore, Steps.plusReg(0, 4),
                    Steps.store(0, n, 5));
            judgedInRow("load of cells " + n + " and one more", both, oneMore, Steps.plusReg(0, 4),
                    Steps.load(0, 0, n));
        }
    }

    private static void cellsFarAway() {
        Expect.sentence("the CELLS that may be meant, lo + n .. hi + n, are all there (n an int)");
        int[][] one = {Steps.plus(2, 100)};
        int[][] several = Steps.join(Steps.range(3, 0, 100), Steps.list(Steps.plusReg(2, 3)));
        for (int n : new int[] {INT_MIN, INT_MIN + 50, INT_MAX - 50, INT_MAX}) {
            judged("store, 100 and " + n, 5, Steps.join(one, Steps.list(Steps.store(2, n, 1))));
            judged("load, 100 and " + n, 5, Steps.join(one, Steps.list(Steps.load(0, 2, n))));
            judged("store, 0 .. 100 and " + n, 5, Steps.join(several, Steps.list(Steps.store(2, n, 1))));
            judged("load, 0 .. 100 and " + n, 5, Steps.join(several, Steps.list(Steps.load(0, 2, n))));
            judgedInRow("load of a row, 100 and " + n, 5, Steps.list(), Steps.plus(0, 100), Steps.load(0, 0, n));
        }
    }

    private static void oneCellToLoad() {
        Expect.sentence("6: LOAD: the CELLS that may be meant hold something");
        for (int c = 0; c <= 5; c++) {
            judged("empty cell " + c, 6, Steps.load(0, 2, c));
            judged("number in cell " + c, FITS, Steps.store(2, c, 1), Steps.load(0, 2, c));
            judged("place in cell " + c, FITS, Steps.store(2, c, 2), Steps.load(0, 2, c));
            judged("cell beside " + c, 6, Steps.store(2, c, 1), Steps.load(0, 2, (c + 1) % 6));
        }
        judged("what may be missing", FITS, Steps.copy(4, 2), Steps.set(1, 0), Steps.find(), Steps.store(4, 0, 0),
                Steps.load(0, 4, 0));
        judgedInRow("a row's place", FITS, Steps.list(Steps.copy(4, 2)), Steps.store(4, 0, 0), Steps.load(0, 4, 0));
        judgedInRow("a row's cells are never empty", FITS, Steps.list(), Steps.load(0, 0, 1));
        judged("a store that may mean two leaves both empty", 6, Steps.join(Steps.range(3, 0, 1),
                Steps.list(Steps.copy(4, 2), Steps.plusReg(4, 3), Steps.store(4, 0, 1), Steps.load(0, 2, 0))));
    }

    private static void severalCellsToLoad() {
        Expect.sentence("and if there are more than one, RANGES");
        // R4 may be cell 1, 2 or 3; all but one of them are numbers.
        int[][] three = Steps.join(Steps.range(3, 1, 3), Steps.list(Steps.copy(4, 2), Steps.plusReg(4, 3)));
        int[] load = Steps.load(0, 4, 0);
        for (int odd = 0; odd <= 4; odd++) {
            int[][] others = new int[0][];
            for (int c = 0; c <= 4; c++) {
                if (c != odd) {
                    others = Steps.join(others, Steps.list(Steps.store(2, c, 1)));
                }
            }
            int[][] numbers = Steps.join(three, others);
            int reason = odd >= 1 && odd <= 3 ? 6 : FITS;
            judged("cell " + odd + " empty", reason, Steps.join(numbers, Steps.list(load)));
            judged("cell " + odd + " a place", reason, Steps.join(numbers, Steps.list(Steps.store(2, odd, 2), load)));
            judged("cell " + odd + " may be missing", reason, Steps.join(numbers, Steps.list(Steps.copy(5, 2),
                    Steps.set(1, 0), Steps.find(), Steps.store(5, odd, 0), load)));
            judged("cell " + odd + " a number too", FITS, Steps.join(numbers, Steps.list(Steps.store(2, odd, 1),
                    load)));
        }
    }

    private static void rowsToFind() {
        Expect.sentence("7: FIND: R1's RANGE is in 0 .. 7.");
        for (int key = -1; key <= 8; key++) {
            judged("find " + key, key < 0 || key > 7 ? 7 : FITS, Steps.set(1, key), Steps.find());
        }
        int[][] bounds = {{0, 7, FITS}, {0, 8, 7}, {-1, 7, 7}, {-1, 0, 7}, {7, 8, 7}, {6, 7, FITS}, {8, 9, 7},
            {-2, -1, 7}};
        for (int[] b : bounds) {
            judged("find " + b[0] + " .. " + b[1], b[2], Steps.join(Steps.range(3, b[0], b[1]),
                    Steps.list(Steps.copy(1, 3), Steps.find())));
        }
        judged("find any", 7, Steps.find());
        judged("find 2^32", 7, Steps.set(1, INT_MAX), Steps.plus(1, 1), Steps.plusReg(1, 1), Steps.find());
        judged("COUNT needs no such range", FITS, Steps.set(1, 8), Steps.countCalls());
        judged("GREATER needs no such range", FITS, Steps.set(1, 8), Steps.set(2, -1), Steps.greater());
    }

    private static void risingOrder() {
        Expect.sentence("(in a STEP: REASONS in rising order)");
        judged("1 before 2", 1, Steps.equal(5, 0, 0));
        judged("1 before 4", 1, Steps.above(2, 0, 0));
        judged("2 before 3, shift", 2, Steps.shift(5, 64));
        judged("2 before 3, divide", 2, Steps.divide(5, 0));
        judged("2 before 4, D empty", 2, Steps.plusReg(5, 2));
        judged("2 before 4, S empty", 2, Steps.minus(2, 5));
        judged("2 before 4, GREATER", 2, Steps.copy(4, 2), Steps.countCalls(), Steps.copy(1, 4), Steps.greater());
        judged("2 before 5", 2, Steps.store(2, 6, 5));
        judged("3 before 4, shift", 3, Steps.shift(2, 64));
        judged("3 before 4, divide", 3, Steps.divide(2, 0));
        judged("4 before 5, load", 4, Steps.load(0, 1, 6));
        judged("4 before 5, store", 4, Steps.store(1, 6, 1));
        judged("4 before 5, add", 4, Steps.plus(2, 100), Steps.plusReg(2, 2));
        judgedInRow("4 before 5, a place into a row", 4, Steps.list(Steps.copy(4, 2)), Steps.store(0, 2, 4));
        judged("5 before 6, one cell", 5, Steps.load(0, 2, 6));
        judged("5 before 6, two cells, one empty, one not there", 5, Steps.join(Steps.range(3, 0, 1),
                Steps.list(Steps.plusReg(2, 3), Steps.load(0, 2, 5))));
        judged("4 before 7", 4, Steps.copy(1, 2), Steps.find());
    }
}
