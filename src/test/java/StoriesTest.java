/** Whole programs as a user would write them, from the first add to the last answer: promises 1 to 10 together. */
public final class StoriesTest {
    private static final long MIN = Expect.MIN;
    private static final long MAX = Expect.MAX;

    public static void main(String[] args) {
        visitsOfRows();
        clamp();
        tableInTheFrame();
        fromRowToRow();
        ticketsUpToALimit();
        aProgramThatIsMended();
        objectsShareNothing();
        Expect.end();
    }

    /** Cell 0 of the row that the argument's last three bits name grows by 1; answers it, or 0 if there is no row. */
    private static int[][] visits() {
        return Steps.list(Steps.and(1, 7), Steps.find(), Steps.equal(0, 0, 7), Steps.load(4, 0, 0), Steps.plus(4, 1),
                Steps.store(0, 0, 4), Steps.copy(0, 4), Steps.exit());
    }

    private static void visitsOfRows() {
        CheckedMachine x = Expect.machine(visits());
        Expect.due("visits, looked at", x.check(), 9);
        Expect.due("visits, least", x.outcome(false), MIN);
        Expect.due("visits, greatest", x.outcome(true), MAX);
        Expect.due("first visit", x.run(3), 1);
        Expect.due("steps run", x.count(5), 8);
        Expect.due("second visit", x.run(8 + 3), 2);
        Expect.due("another row's", x.run(5), 1);
        Expect.due("no row", x.run(6), 0);
        Expect.due("steps run, no row", x.count(5), 4);
        Expect.due("no row", x.run(-1), 0);
        Expect.due("row 3", x.row(3, 0), 2);
        Expect.due("row 3, the other cell", x.row(3, 1), 0);
        x.fill(5, 0, MAX);
        Expect.due("the greatest long and 1", x.run(5), MIN);
        Expect.due("row 5", x.row(5, 0), MIN);
        Expect.rejected("visits that don't ask for a row that is missing", 4, 2, 3, Steps.and(1, 7), Steps.find(),
                Steps.load(4, 0, 0), Steps.copy(0, 4), Steps.exit());
        Expect.rejected("visits of a row that may be any long", 7, 0, 1, Steps.find(), Steps.exit());
    }

    private static void clamp() {
        CheckedMachine x = Expect.checked("clamp", Steps.copy(0, 1), Steps.above(0, 50, 5), Steps.set(3, -50),
                Steps.below(0, 3, 7), Steps.exit(), Steps.set(0, 50), Steps.exit(), Steps.set(0, -50), Steps.exit());
        Expect.due("clamp, looked at", x.count(4), 9);
        Expect.due("clamp, least", x.outcome(false), -50);
        Expect.due("clamp, greatest", x.outcome(true), 50);
        long[][] pairs = {{MIN, -50}, {-51, -50}, {-50, -50}, {-49, -49}, {0, 0}, {50, 50}, {51, 50}, {MAX, 50}};
        for (long[] pair : pairs) {
            Expect.due("clamp " + pair[0], x.run(pair[0]), pair[1]);
        }
    }

    /** Cells 0 .. 5 are squares; then the guards, a place that the argument moves, and a way out at step 19. */
    private static int[][] table(int[]... guards) {
        int[][] squares = Steps.list();
        for (int c = 0; c < 6; c++) {
            squares = Steps.join(squares, Steps.list(Steps.set(0, c * c), Steps.store(2, c, 0)));
        }
        return Steps.join(squares, guards, Steps.list(Steps.plusReg(2, 1), Steps.load(0, 2, 0), Steps.exit(),
                Steps.exit(), Steps.set(0, -1), Steps.exit()));
    }

    private static void tableInTheFrame() {
        CheckedMachine x = Expect.checked("table",
                table(Steps.above(1, 5, 19), Steps.set(3, 0), Steps.below(1, 3, 19)));
        Expect.due("table, least", x.outcome(false), -1);
        Expect.due("table, greatest", x.outcome(true), 25);
        for (int c = 0; c < 6; c++) {
            Expect.due("square of " + c, x.run(c), c * c);
        }
        for (long other : new long[] {MIN, -1, 6, 1L << 32, MAX}) {
            Expect.due("no square of " + other, x.run(other), -1);
        }
        Expect.rejected("no lower guard", 5, 15, 16, table(Steps.above(1, 5, 19), Steps.set(3, 0), Steps.set(4, 0)));
        Expect.rejected("no upper guard", 5, 15, 16, table(Steps.set(4, 0), Steps.set(3, 0), Steps.below(1, 3, 19)));
        Expect.rejected("upper guard one too high", 5, 16, 17,
                table(Steps.above(1, 6, 19), Steps.set(3, 0), Steps.below(1, 3, 19)));
        Expect.rejected("lower guard one too low", 5, 16, 17,
                table(Steps.above(1, 5, 19), Steps.set(3, -1), Steps.below(1, 3, 19)));
    }

    /** Two rows at once: what FIND answered waits in the frame, not yet known, while another is sought. */
    private static void fromRowToRow() {
        CheckedMachine x = Expect.checked("from row to row", Steps.and(1, 7), Steps.copy(4, 2), Steps.find(),
                Steps.store(4, 0, 0), Steps.set(1, 2), Steps.find(), Steps.equal(0, 0, 13), Steps.load(5, 4, 0),
                Steps.equal(5, 0, 13), Steps.load(3, 5, 1), Steps.store(0, 0, 3), Steps.copy(0, 3), Steps.exit(),
                Steps.set(0, -1), Steps.exit());
        for (int r = 0; r < 6; r++) {
            x.fill(r, 1, 100 + r);
        }
        for (int r = 0; r < 6; r++) {
            Expect.due("from row " + r, x.run(r), 100 + r);
            Expect.due("row 2 has row " + r + "'s", x.row(2, 0), 100 + r);
            Expect.due("row " + r + " keeps its", x.row(r, 1), 100 + r);
        }
        Expect.due("from no row", x.run(7), -1);
        Expect.due("row 2 keeps its", x.row(2, 0), 105);
    }

    private static void ticketsUpToALimit() {
        CheckedMachine x = Expect.checked("tickets", Steps.copy(4, 1), Steps.countCalls(), Steps.below(0, 4, 4),
                Steps.set(0, -1), Steps.exit());
        Expect.due("tickets, least", x.outcome(false), -1);
        Expect.due("tickets, greatest", x.outcome(true), 99);
        Expect.due("first", x.run(2), 0);
        Expect.due("second", x.run(2), 1);
        Expect.due("third", x.run(2), -1);
        Expect.due("a higher limit", x.run(100), 3);
        Expect.due("calls", x.count(6), 4);
    }

    private static void aProgramThatIsMended() {
        CheckedMachine x = new CheckedMachine();
        Expect.thrown("no steps, check", () -> x.check(), Expect.ILLEGAL_ARGUMENT);
        Expect.due("add", Expect.addTo(x, Steps.copy(0, 1)), 0);
        Expect.due("add", Expect.addTo(x, Steps.divide(0, 0)), 1);
        Expect.due("add", Expect.addTo(x, Steps.exit()), 2);
        Expect.thrown("divides by 0, check", () -> x.check(), Expect.ILLEGAL_ARGUMENT);
        Expect.due("reason", x.count(2), 3);
        Expect.due("step", x.count(3), x.count(0) - 2);
        Expect.putIn(x, 1, Steps.divide(0, 10));
        Expect.due("mended, check", x.check(), 3);
        Expect.due("run", x.run(-99), -9);
        x.cut(2);
        Expect.thrown("no exit, check", () -> x.check(), Expect.ILLEGAL_ARGUMENT);
        Expect.due("reason", x.count(2), 1);
        Expect.due("where a step should have been", x.count(3), 2);
        Expect.due("add", Expect.addTo(x, Steps.exit()), 2);
        Expect.due("mended again, check", x.check(), 3);
        Expect.due("run", x.run(MAX), MAX / 10);
        Expect.due("the latest rejection's reason is still told", x.count(2), 1);
    }

    private static void objectsShareNothing() {
        CheckedMachine x = Expect.checked("one", visits());
        CheckedMachine y = Expect.checked("other", Steps.countCalls(), Steps.exit());
        Expect.due("one", x.run(0), 1);
        Expect.due("other", y.run(0), 0);
        Expect.due("other's row", y.row(0, 0), 0);
        Expect.due("one's COUNT calls", x.count(6), 0);
        Expect.due("other's steps", y.count(0), 2);
        y.cut(0);
        Expect.thrown("other, check", () -> y.check(), Expect.ILLEGAL_ARGUMENT);
        Expect.due("one is checked", x.count(1), 1);
        Expect.due("one has no rejection", x.count(2), 0);
        Expect.due("one", x.run(0), 2);
        Expect.due("one's steps run", x.count(5), 8);
        Expect.due("other's steps run", y.count(5), 2);
    }
}
