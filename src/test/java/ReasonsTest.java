/** Promise 5: every reason for which a step is rejected, at its edges, and the order of the reasons. */
public final class ReasonsTest {
    public static void main(String[] args) {
        stepsAndTargets();
        emptyRegisters();
        numbers();
        kinds();
        kindsOfStore();
        offsets();
        cellsThatAreNotThere();
        cellsThatCannotBeLoaded();
        rowsToFind();
        callsEmptyRegisters();
        theLeastReasonWins();
        Expect.end();
    }

    private static void stepsAndTargets() {
        Expect.rejected("no step", 1, 0, 1);
        Expect.rejected("no exit", 1, 1, 2, Steps.set(0, 1));
        Expect.rejected("go to itself", 1, 0, 1, Steps.go(0));
        Expect.rejected("go behind the end", 1, 0, 1, Steps.go(2), Steps.exit());
        Expect.rejected("go back", 1, 1, 2, Steps.set(0, 1), Steps.go(0), Steps.exit());
        Expect.rejected("equal to itself", 1, 0, 1, Steps.equal(1, 0, 0), Steps.exit());
        Expect.rejected("above behind the end", 1, 0, 1, Steps.above(1, 0, 1));
        Expect.rejected("below behind the end", 1, 0, 1, Steps.below(1, 1, 23), Steps.set(0, 1), Steps.exit());
        Expect.checked("targets of other steps are not looked at", new int[] {0, 0, 0, 1, 0},
                new int[] {2, 0, 0, 1, 23}, new int[] {17, 3, 3, 7, 0});
        Expect.checked("step that is never reached", Steps.set(0, 1), Steps.exit(), Steps.go(0));
    }

    private static void emptyRegisters() {
        for (int op = 2; op <= 12; op++) {
            Expect.rejected("op " + op + ", D", 2, 0, 1, new int[] {op, 5, 1, 1, 1}, Steps.exit());
        }
        for (int op : new int[] {1, 3, 4, 12, 14}) {
            Expect.rejected("op " + op + ", S", 2, 0, 1, new int[] {op, 1, 5, 1, 1}, Steps.exit());
        }
        Expect.rejected("store, S", 2, 0, 1, Steps.store(2, 0, 5), Steps.exit());
        Expect.rejected("store, D", 2, 0, 1, Steps.store(5, 0, 1), Steps.exit());
        Expect.rejected("exit", 2, 0, 1, Steps.exit());
        Expect.rejected("find", 2, 1, 2, Steps.countCalls(), Steps.find(), Steps.exit());
        Expect.rejected("greater, R1", 2, 2, 3, Steps.countCalls(), Steps.set(2, 1), Steps.greater(), Steps.exit());
        Expect.rejected("greater, R2", 2, 2, 3, Steps.countCalls(), Steps.set(1, 1), Steps.greater(), Steps.exit());
        Expect.checked("registers that aren't used may be empty", new int[] {0, 0, 5, 1, 0},
                new int[] {2, 0, 5, 1, 0}, new int[] {9, 0, 5, 1, 0}, new int[] {11, 0, 5, 1, 5},
                new int[] {13, 5, 5, 1, 5}, new int[] {1, 4, 0, 0, 0}, new int[] {16, 5, 5, 0, 0},
                new int[] {17, 5, 5, 0, 0});
    }

    private static void numbers() {
        for (int n : new int[] {-1, 64, Integer.MIN_VALUE, Integer.MAX_VALUE}) {
            Expect.rejected("shift by " + n, 3, 0, 1, Steps.shift(1, n), Steps.exit());
        }
        Expect.rejected("divide by 0", 3, 0, 1, Steps.divide(1, 0), Steps.exit());
        for (int n : new int[] {-1, 3, Integer.MIN_VALUE, Integer.MAX_VALUE}) {
            Expect.rejected("call " + n, 3, 0, 1, Steps.call(n), Steps.exit());
        }
        Expect.checked("numbers at their edges", Steps.shift(1, 0), Steps.shift(1, 63), Steps.divide(1, -1),
                Steps.divide(1, 1), Steps.copy(0, 1), Steps.exit());
    }

    private static void kinds() {
        for (int op : new int[] {4, 5, 6, 7, 8, 9, 10, 11, 12}) {
            Expect.rejected("op " + op + ", D a place", 4, 0, 1, new int[] {op, 2, 1, 0 + (op == 8 ? 1 : 0), 1},
                    Steps.exit());
        }
        for (int op : new int[] {3, 4, 12, 14}) {
            int s = op == 14 ? 1 : 2;
            Expect.rejected("op " + op + ", S", 4, 0, 1, new int[] {op, 1, s, 0, 1}, Steps.exit());
        }
        Expect.rejected("a place to a place", 4, 0, 1, Steps.plusReg(2, 2), Steps.exit());
        Expect.rejected("store to a number", 4, 0, 1, Steps.store(1, 0, 1), Steps.exit());
        Expect.rejected("exit with a place", 4, 1, 2, Steps.copy(0, 2), Steps.exit());
        Expect.rejected("greater of a place", 4, 0, 1, Steps.greater(), Steps.exit());
        Expect.rejected("find of a place", 4, 1, 2, Steps.copy(1, 2), Steps.find(), Steps.exit());
        int[][] maybe = {Steps.plus(0, 0), Steps.plusReg(0, 4), Steps.minus(0, 4), Steps.equal(0, 1, 4),
            Steps.above(0, 0, 4), Steps.load(0, 0, 0), Steps.store(0, 0, 4), Steps.exit(), Steps.negate(0)};
        for (int[] step : maybe) {
            Expect.rejected("maybe in op " + step[0], 4, 3, 4, Steps.set(4, 0), Steps.set(1, 0), Steps.find(), step,
                    Steps.exit());
        }
        Expect.rejected("a row's place is no number", 4, 3, 4, Steps.set(1, 0), Steps.find(), Steps.equal(0, 0, 4),
                Steps.exit(), Steps.exit());
        Expect.rejected("a copy of what may be missing stays so", 4, 4, 5, Steps.set(1, 0), Steps.find(),
                Steps.copy(4, 0), Steps.equal(0, 0, 5), Steps.load(0, 4, 0), Steps.exit());
    }

    private static void kindsOfStore() {
        Expect.checked("anything into one cell", Steps.copy(5, 2), Steps.store(2, 0, 2), Steps.set(1, 3),
                Steps.find(), Steps.store(5, 1, 0), Steps.load(4, 5, 1), Steps.equal(4, 0, 8), Steps.load(3, 4, 1),
                Steps.set(0, 1), Steps.exit());
        Expect.rejected("a place into a row", 4, 4, 5, Steps.copy(5, 2), Steps.set(1, 3), Steps.find(),
                Steps.equal(0, 0, 5), Steps.store(0, 0, 5), Steps.exit());
        // R4 is a place 0 .. 1 of the frame
        int[][] two = {Steps.copy(4, 2), Steps.and(1, 1), Steps.plusReg(4, 1)};
        Expect.rejected("a place into one of two cells", 4, 3, 4, two[0], two[1], two[2], Steps.store(4, 0, 2));
        Expect.rejected("over a place", 4, 4, 5, two[0], two[1], two[2], Steps.store(2, 1, 2), Steps.store(4, 0, 1));
        Expect.rejected("over a place, the first cell", 4, 4, 5, two[0], two[1], two[2], Steps.store(2, 0, 2),
                Steps.store(4, 0, 1));
        Expect.rejected("over a place, 3 further on", 4, 4, 5, two[0], two[1], two[2], Steps.store(2, 3, 2),
                Steps.store(4, 3, 1));
        Expect.rejected("beside a place", 1, 5, 6, two[0], two[1], two[2], Steps.store(2, 2, 2),
                Steps.store(4, 0, 1));
        Expect.rejected("over a place, with a cell that isn't there", 4, 4, 5, two[0], two[1], two[2],
                Steps.store(2, 0, 2), Steps.store(4, -1, 1));
        Expect.rejected("a place, with a cell that isn't there", 4, 3, 4, two[0], two[1], two[2],
                Steps.store(4, 5, 2));
        Expect.rejected("beside a place, with a cell that isn't there", 5, 4, 5, two[0], two[1], two[2],
                Steps.store(2, 1, 2), Steps.store(4, -1, 1));
    }

    private static void offsets() {
        Expect.checked("100 and -100", Steps.plus(2, 100), Steps.plus(2, -200), Steps.plus(2, 100),
                Steps.set(0, 1), Steps.exit());
        Expect.rejected("101", 5, 0, 1, Steps.plus(2, 101), Steps.exit());
        Expect.rejected("-101", 5, 0, 1, Steps.plus(2, -101), Steps.exit());
        Expect.rejected("far", 5, 0, 1, Steps.plus(2, Integer.MAX_VALUE), Steps.exit());
        Expect.rejected("by any number", 5, 0, 1, Steps.plusReg(2, 1), Steps.exit());
        Expect.rejected("by -101 .. 100", 5, 3, 4, Steps.set(3, 101), Steps.shift(1, 63), Steps.plus(2, -100),
                Steps.plusReg(2, 1), Steps.exit());
        Expect.rejected("101 by two steps", 5, 2, 3, Steps.set(3, 51), Steps.plus(2, 50), Steps.plusReg(2, 3));
        Expect.rejected("beyond all longs", 5, 3, 4, Steps.shift(1, 1), Steps.plus(2, 100), Steps.plus(1, 99),
                Steps.plusReg(2, 1));
        // R2 is 0 .. 7 further on
        Expect.rejected("93 .. 100 are near enough", 1, 3, 4, Steps.and(1, 7), Steps.plusReg(2, 1), Steps.plus(2, 93));
        Expect.rejected("94 .. 101", 5, 2, 3, Steps.and(1, 7), Steps.plusReg(2, 1), Steps.plus(2, 94));
        Expect.rejected("-100 .. -93 are near enough", 1, 3, 4, Steps.and(1, 7), Steps.plusReg(2, 1),
                Steps.plus(2, -100));
        Expect.rejected("-101 .. -94", 5, 2, 3, Steps.and(1, 7), Steps.plusReg(2, 1), Steps.plus(2, -101));
        Expect.rejected("0 .. 100 is near enough", 1, 2, 3, Steps.and(1, 100), Steps.plusReg(2, 1));
        Expect.rejected("0 .. 101", 5, 1, 2, Steps.and(1, 101), Steps.plusReg(2, 1));
        Expect.rejected("of a row", 5, 3, 4, Steps.set(1, 3), Steps.find(), Steps.equal(0, 0, 4),
                Steps.plus(0, 101), Steps.exit());
    }

    private static void cellsThatAreNotThere() {
        Expect.checked("cells 0 and 5", Steps.store(2, 0, 1), Steps.store(2, 5, 1), Steps.load(0, 2, 5),
                Steps.plus(2, 9), Steps.load(0, 2, -9), Steps.exit());
        for (int n : new int[] {-1, 6, Integer.MIN_VALUE, Integer.MAX_VALUE}) {
            Expect.rejected("store, cell " + n, 5, 0, 1, Steps.store(2, n, 1), Steps.exit());
            Expect.rejected("load, cell " + n, 5, 0, 1, Steps.load(0, 2, n), Steps.exit());
            Expect.rejected("store in a row, cell " + n, 5, 4, 5, Steps.set(4, 3), Steps.set(1, 3), Steps.find(),
                    Steps.equal(0, 0, 5), Steps.store(0, n < 0 ? n : n - 4, 4), Steps.exit());
            Expect.rejected("load of a row, cell " + n, 5, 3, 4, Steps.set(1, 3), Steps.find(),
                    Steps.equal(0, 0, 5), Steps.load(0, 0, n < 0 ? n : n - 4), Steps.exit(), Steps.exit());
        }
        Expect.rejected("store, cells 3 .. 6", 5, 2, 3, Steps.and(1, 3), Steps.plusReg(2, 1), Steps.store(2, 3, 1));
        Expect.rejected("store, cells 2 .. 5", 1, 3, 4, Steps.and(1, 3), Steps.plusReg(2, 1), Steps.store(2, 2, 1));
        Expect.rejected("load, cells -1 .. 0", 5, 3, 4, Steps.store(2, 0, 1), Steps.and(1, 1), Steps.plusReg(2, 1),
                Steps.load(0, 2, -1));
    }

    private static void cellsThatCannotBeLoaded() {
        Expect.rejected("an empty cell", 6, 0, 1, Steps.load(0, 2, 0), Steps.exit());
        Expect.rejected("another cell", 6, 1, 2, Steps.store(2, 1, 1), Steps.load(0, 2, 0), Steps.exit());
        int[][] two = {Steps.copy(4, 2), Steps.and(1, 1), Steps.plusReg(4, 1), Steps.store(2, 0, 1)};
        Expect.rejected("one of two cells empty", 6, 4, 5, two[0], two[1], two[2], two[3], Steps.load(0, 4, 0));
        Expect.rejected("one of two cells a place", 6, 5, 6, two[0], two[1], two[2], two[3], Steps.store(2, 1, 2),
                Steps.load(0, 4, 0));
        Expect.checked("two numbers, a place beside them", two[0], two[1], two[2], two[3], Steps.store(2, 1, 1),
                Steps.store(2, 2, 2), Steps.load(0, 4, 0), Steps.exit());
        Expect.rejected("a store that may mean two cells leaves empty ones empty", 6, 4, 5, two[0], two[1], two[2],
                Steps.store(4, 0, 1), Steps.load(0, 2, 0));
        Expect.checked("a place from one cell", Steps.store(2, 3, 2), Steps.load(4, 2, 3), Steps.store(4, 0, 1),
                Steps.load(0, 2, 0), Steps.exit());
    }

    private static void rowsToFind() {
        Expect.rejected("find -1", 7, 1, 2, Steps.set(1, -1), Steps.find(), Steps.exit());
        Expect.rejected("find 8", 7, 1, 2, Steps.set(1, 8), Steps.find(), Steps.exit());
        Expect.rejected("find 0 .. 8", 7, 1, 2, Steps.and(1, 8), Steps.find(), Steps.exit());
        Expect.rejected("find anything", 7, 0, 1, Steps.find(), Steps.exit());
        Expect.rejected("find -1 .. 0", 7, 1, 2, Steps.shift(1, 63), Steps.find(), Steps.exit());
        Expect.rejected("find 0 .. 7", 4, 2, 3, Steps.and(1, 7), Steps.find(), Steps.exit());
    }

    private static void callsEmptyRegisters() {
        for (int r = 1; r <= 3; r++) {
            for (int n = 0; n <= 2; n++) {
                Expect.rejected("R" + r + " after call " + n, 2, 4, 5, Steps.set(1, 1), Steps.set(2, 1),
                        Steps.set(3, 1), Steps.call(n), Steps.copy(0, r));
            }
        }
        Expect.outcomes("R4 and R5 stay", 7, 7, Steps.set(4, 3), Steps.set(5, 4), Steps.countCalls(),
                Steps.copy(0, 4), Steps.plusReg(0, 5), Steps.exit());
    }

    private static void theLeastReasonWins() {
        Expect.rejected("1 before 2", 1, 0, 1, Steps.equal(5, 0, 9), Steps.exit());
        Expect.rejected("1 before 4", 1, 0, 1, Steps.equal(2, 0, 0), Steps.exit());
        Expect.rejected("2 before 3", 2, 0, 1, Steps.shift(5, 64), Steps.exit());
        Expect.rejected("3 before 4", 3, 0, 1, Steps.divide(2, 0), Steps.exit());
        Expect.rejected("4 before 5", 4, 0, 1, Steps.load(0, 1, 99), Steps.exit());
        Expect.rejected("5 before 6", 5, 0, 1, Steps.load(0, 2, 6), Steps.exit());
        Expect.rejected("4 before 7", 4, 1, 2, Steps.copy(1, 2), Steps.find(), Steps.exit());
    }
}
