/** Promises 7 and 8: row and fill, and how runs see the map. */
public final class MapTest {
    public static void main(String[] args) {
        rowsKeepWhatIsFilled();
        wrongCellsAreRefused();
        runsReadAndWriteRows();
        changesLeaveTheMap();
        Expect.end();
    }

    private static void rowsKeepWhatIsFilled() {
        CheckedMachine x = new CheckedMachine();
        for (int i = 0; i < 12; i++) {
            x.fill(i / 2, i % 2, 1000L * i + Expect.MIN);
        }
        for (int i = 0; i < 12; i++) {
            Expect.due("row", x.row(i / 2, i % 2), 1000L * i + Expect.MIN);
        }
        x.fill(5, 1, Expect.MAX);
        Expect.due("row filled anew", x.row(5, 1), Expect.MAX);
    }

    private static void wrongCellsAreRefused() {
        CheckedMachine x = new CheckedMachine();
        int[][] wrong = {{-1, 0}, {6, 0}, {0, -1}, {0, 2}, {Integer.MIN_VALUE, 0}, {0, Integer.MAX_VALUE}, {6, 2}};
        for (int[] at : wrong) {
            Expect.thrown("row", () -> x.row(at[0], at[1]), Expect.ILLEGAL_ARGUMENT);
            Expect.thrown("fill", () -> x.fill(at[0], at[1], 1), Expect.ILLEGAL_ARGUMENT);
        }
        for (int i = 0; i < 12; i++) {
            Expect.due("row after refusals", x.row(i / 2, i % 2), 0);
        }
    }

    private static void runsReadAndWriteRows() {
        // Adds 5 to cell 1 of the row found by the argument; answers what was there, or -1.
        CheckedMachine x = Expect.checked("rows", Steps.and(1, 7), Steps.find(), Steps.equal(0, 0, 8),
                Steps.load(4, 0, 1), Steps.copy(5, 4), Steps.plus(5, 5), Steps.store(0, 1, 5), Steps.go(9),
                Steps.set(4, -1), Steps.copy(0, 4), Steps.exit());
        for (int r = 0; r < 6; r++) {
            x.fill(r, 1, 10 * r);
            x.fill(r, 0, -r);
        }
        for (int r = 0; r < 6; r++) {
            Expect.due("row read", x.run(r), 10 * r);
            Expect.due("row read again", x.run(r), 10 * r + 5);
            Expect.due("row written", x.row(r, 1), 10 * r + 10);
            Expect.due("other cell", x.row(r, 0), -r);
        }
        Expect.due("no row", x.run(6), -1);
        Expect.due("no row", x.run(7), -1);
    }

    private static void changesLeaveTheMap() {
        CheckedMachine x = Expect.machine(Steps.set(0, 1), Steps.exit());
        x.check();
        x.fill(2, 1, 9);
        Expect.due("checked after fill", x.count(1), 1);
        x.run(0);
        x.cut(0);
        Expect.due("row after cut", x.row(2, 1), 9);
    }
}
