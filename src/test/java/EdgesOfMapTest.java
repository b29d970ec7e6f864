/** The map, and the edges of promises 7 and 8, sentence by sentence. */
public final class EdgesOfMapTest {
    private static final long MIN = Expect.MIN;
    private static final long MAX = Expect.MAX;

    public static void main(String[] args) {
        sixRowsWithTwoCells();
        zeroAtFirst();
        longs();
        theyStay();
        rowRefuses();
        fillRefuses();
        fillLeavesTheProgram();
        Expect.end();
    }

    private static void sixRowsWithTwoCells() {
        Expect.sentence("a MAP of 6 ROWS with 2 CELLS each");
        CheckedMachine x = new CheckedMachine();
        for (int i = 0; i < 12; i++) {
            x.fill(i / 2, i % 2, i + 1);
        }
        for (int i = 0; i < 12; i++) {
            Expect.due("row " + i / 2 + ", cell " + i % 2, x.row(i / 2, i % 2), i + 1);
        }
    }

    private static void zeroAtFirst() {
        Expect.sentence("that stay from run to run (0 at first)");
        new CheckedMachine().fill(3, 0, 8);
        CheckedMachine x = new CheckedMachine();
        for (int i = 0; i < 12; i++) {
            Expect.due("row " + i / 2 + ", cell " + i % 2, x.row(i / 2, i % 2), 0);
        }
        for (int c = 0; c <= 1; c++) {
            Expect.answers("a run's load of cell " + c, 0, 0,
                    Steps.inRow(Steps.list(), Steps.load(0, 0, c), Steps.exit()));
        }
    }

    private static void longs() {
        Expect.sentence("It becomes v.");
        CheckedMachine x = new CheckedMachine();
        for (long v : new long[] {MIN, MAX, -1, 1L << 32, 0}) {
            x.fill(0, 0, v);
            x.fill(5, 1, v);
            Expect.due("first cell", x.row(0, 0), v);
            Expect.due("last cell", x.row(5, 1), v);
        }
    }

    /** Stores the argument in cell 1 of row 3, answers what was there. */
    private static CheckedMachine exchange() {
        CheckedMachine x = Expect.machine(Steps.inRow(Steps.list(Steps.copy(4, 1)), Steps.load(5, 0, 1),
                Steps.store(0, 1, 4), Steps.copy(0, 5), Steps.exit()));
        x.check();
        return x;
    }

    private static void theyStay() {
        Expect.sentence("longs, that stay from run to run");
        CheckedMachine x = exchange();
        Expect.due("first run", x.run(MIN), 0);
        Expect.due("second run", x.run(MAX), MIN);
        Expect.due("third run", x.run(-5), MAX);
        Expect.due("row", x.row(3, 1), -5);
        Expect.due("the cell beside it", x.row(3, 0), 0);
        x.fill(3, 1, 77);
        Expect.due("run after fill", x.run(6), 77);
        Expect.addTo(x, Steps.exit());
        x.check();
        Expect.due("run after add and check", x.run(7), 6);
        x.cut(0);
        Expect.thrown("rejected", () -> x.check(), Expect.ILLEGAL_ARGUMENT);
        Expect.due("row after cut and a rejection", x.row(3, 1), 7);
    }

    private static final int[][] NO_CELLS = {{-1, 0}, {6, 0}, {0, -1}, {0, 2}, {5, 2}, {-1, 1}, {6, 1}, {-1, -1},
        {Integer.MIN_VALUE, 0}, {Integer.MAX_VALUE, 0}, {0, Integer.MIN_VALUE}, {0, Integer.MAX_VALUE}};

    private static void rowRefuses() {
        Expect.sentence("CELL c (0, 1) of ROW r (0 .. 5).");
        CheckedMachine x = new CheckedMachine();
        for (int[] at : NO_CELLS) {
            Expect.thrown("row(" + at[0] + ", " + at[1] + ")", () -> x.row(at[0], at[1]), Expect.ILLEGAL_ARGUMENT);
        }
        for (int i = 0; i < 12; i++) {
            int cell = i;
            Expect.thrown("row", () -> x.row(cell / 2, cell % 2), Expect.NOTHING);
        }
    }

    private static void fillRefuses() {
        Expect.sentence("void fill(int r, int c, long v) throws IllegalArgumentException");
        CheckedMachine x = new CheckedMachine();
        for (int[] at : NO_CELLS) {
            Expect.thrown("fill(" + at[0] + ", " + at[1] + ")", () -> x.fill(at[0], at[1], 9),
                    Expect.ILLEGAL_ARGUMENT);
        }
        for (int i = 0; i < 12; i++) {
            Expect.due("row " + i / 2 + ", cell " + i % 2, x.row(i / 2, i % 2), 0);
        }
    }

    private static void fillLeavesTheProgram() {
        Expect.sentence("A program all of whose WAYS end is CHECKED, till add, put or cut is done");
        CheckedMachine x = exchange();
        x.fill(0, 0, 1);
        x.row(0, 0);
        Expect.thrown("refused", () -> x.fill(6, 0, 1), Expect.ILLEGAL_ARGUMENT);
        Expect.thrown("refused", () -> x.row(6, 0), Expect.ILLEGAL_ARGUMENT);
        Expect.due("checked after fill and row", x.count(1), 1);
        Expect.thrown("run after fill and row", () -> x.run(1), Expect.NOTHING);
        Expect.due("checked after run", x.count(1), 1);
    }
}
