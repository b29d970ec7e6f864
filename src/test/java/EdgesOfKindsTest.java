/** Reason 4: which kinds of guesses each op takes in D and in S, sentence by sentence. */
public final class EdgesOfKindsTest {
    private static final int RANGE = 5;
    private static final int FRAME = 4;
    private static final int ROW = 0;
    private static final int MAYBE = 3;
    // A place of the frame too, but one that may mean several cells.
    private static final int SEVERAL = 2;
    private static final int[] ALL = {RANGE, FRAME, ROW, MAYBE};
    private static final int FITS = 0;

    public static void main(String[] args) {
        rangesAlone();
        sOfCopy();
        sOfStoreInOneCell();
        sOfStoreInARow();
        sOfStoreInSeveralCells();
        dOfAdd();
        dOfEqual();
        placesOfLoadAndStore();
        registersOfCalls();
        r0OfExit();
        cellsThatStoreMayMean();
        cellsThatAreNotThere();
        otherStepsMeanNoCells();
        Expect.end();
    }

    /**
     * R5 is 0 .. more, R4 the place of cell 0 of the frame, R2 that of cells 0 .. more, R0 that of a row's cell 0,
     * R3 may be missing and cell 0 is a number; then the steps, the last of which is judged, then SET R0 and EXIT,
     * where jumps go too.
     */
    private static void judged(String what, int reason, int more, int[]... steps) {
        int[][] found = {Steps.and(1, more), Steps.copy(5, 1), Steps.store(2, 0, 5), Steps.copy(4, 2),
            Steps.set(1, 3), Steps.find(), Steps.copy(3, 0)};
        int end = found.length + 3 + steps.length;
        for (int[] step : steps) {
            step[4] = end;
        }
        int[][] all = Steps.join(found, Steps.list(Steps.equal(0, 0, end), Steps.copy(2, 4), Steps.plusReg(2, 5)),
                steps, Steps.list(Steps.set(0, 0), Steps.exit()));
        if (reason == FITS) {
            Expect.checked(what, all);
        } else {
            Expect.rejected(what, reason, end - 1, end, all);
        }
    }

    private static String name(int kind) {
        return kind == RANGE ? "range" : kind == FRAME ? "frame place" : kind == ROW ? "row place" : "maybe";
    }

    private static void inD(int op, int n, int s, int... fitting) {
        for (int kind : ALL) {
            judged("op " + op + ", n " + n + ", D " + name(kind), reason(kind, fitting), 0,
                    new int[] {op, kind, s, n, 0});
        }
    }

    private static void inS(int op, int n, int d, int... fitting) {
        for (int kind : ALL) {
            judged("op " + op + ", S " + name(kind), reason(kind, fitting), 0, new int[] {op, d, kind, n, 0});
        }
    }

    private static int reason(int kind, int... fitting) {
        for (int fit : fitting) {
            if (fit == kind) {
                return FITS;
            }
        }
        return 4;
    }

    private static void rangesAlone() {
        Expect.sentence("4: GUESSES of the right kind: RANGES");
        for (int op : new int[] {4, 5, 6, 7, 8, 9, 11, 12}) {
            inD(op, 1, RANGE, RANGE);
        }
        for (int op : new int[] {3, 4, 12}) {
            inS(op, 0, RANGE, RANGE);
        }
        inS(3, 0, FRAME, RANGE);
        inS(3, 0, ROW, RANGE);
        for (int kind : ALL) {
            int fit = kind == RANGE ? FITS : 4;
            judged("below, D and S one, " + name(kind), fit, 0, Steps.below(kind, kind, 0));
            judged("itself off, " + name(kind), fit, 0, Steps.minus(kind, kind));
            judged("with itself, " + name(kind), fit, 0, Steps.plusReg(kind, kind));
        }
    }

    private static void sOfCopy() {
        Expect.sentence("but S of 1 and 15 anything: 1");
        inS(1, 0, RANGE, ALL);
        inD(1, 0, RANGE, ALL);
        inD(0, 0, RANGE, ALL);
    }

    private static void sOfStoreInOneCell() {
        Expect.sentence("but S of 1 and 15 anything: 15");
        for (int n = 0; n <= 5; n++) {
            inS(15, n, FRAME, ALL);
        }
        for (int kind : ALL) {
            judged("over a place, " + name(kind), FITS, 0, Steps.store(FRAME, 1, FRAME),
                    Steps.store(FRAME, 1, kind));
            judged("over what may be missing, " + name(kind), FITS, 0, Steps.store(FRAME, 1, MAYBE),
                    Steps.store(FRAME, 1, kind));
        }
    }

    private static void sOfStoreInARow() {
        Expect.sentence("(15 into a ROW, or where more than one CELL may be meant: a RANGE): a ROW");
        inS(15, 0, ROW, RANGE);
        inS(15, 1, ROW, RANGE);
    }

    private static void sOfStoreInSeveralCells() {
        Expect.sentence("(15 into a ROW, or where more than one CELL may be meant: a RANGE): more than one CELL");
        for (int kind : ALL) {
            int fit = reason(kind, RANGE);
            judged("one of one, " + name(kind), FITS, 0, Steps.store(SEVERAL, 0, kind));
            judged("one of two, " + name(kind), fit, 1, Steps.store(SEVERAL, 0, kind));
            judged("one of six, " + name(kind), fit, 5, Steps.store(SEVERAL, 0, kind));
            judged("one of a row's two, " + name(kind), fit, 1, Steps.copy(1, 0), Steps.plusReg(1, 5),
                    Steps.store(1, 0, kind));
            int or5 = kind == RANGE ? 5 : 4;
            judged("one of two, one of which isn't there, " + name(kind), or5, 1, Steps.store(SEVERAL, 5, kind));
            judged("one of two, none of which is there, " + name(kind), or5, 1, Steps.store(SEVERAL, 6, kind));
            judged("one that isn't there, " + name(kind), 5, 0, Steps.store(SEVERAL, 6, kind));
        }
    }

    private static void dOfAdd() {
        Expect.sentence("D of 2 and 3 also a PLACE (not MAYBE)");
        inD(2, 0, RANGE, RANGE, FRAME, ROW);
        inD(2, 1, RANGE, RANGE, FRAME, ROW);
        inD(3, 0, RANGE, RANGE, FRAME, ROW);
    }

    private static void dOfEqual() {
        Expect.sentence("D of 10 also MAYBE, if n is 0");
        inD(10, 0, RANGE, RANGE, MAYBE);
        for (int n : new int[] {-1, 1, Integer.MIN_VALUE, Integer.MAX_VALUE}) {
            inD(10, n, RANGE, RANGE);
        }
        inD(11, 0, RANGE, RANGE);
        inD(12, 0, RANGE, RANGE);
    }

    private static void placesOfLoadAndStore() {
        Expect.sentence("S of 14 and D of 15 a PLACE");
        inS(14, 0, RANGE, FRAME, ROW);
        inD(14, 0, FRAME, ALL);
        inD(15, 0, RANGE, FRAME, ROW);
    }

    private static void registersOfCalls() {
        Expect.sentence("4: GUESSES of the right kind: RANGES (16: R1 for FIND, R1 and R2 for GREATER)");
        for (int kind : ALL) {
            int fit = reason(kind, RANGE);
            judged("FIND, R1 " + name(kind), fit, 0, Steps.copy(1, kind), Steps.find());
            judged("FIND, R2 " + name(kind), FITS, 0, Steps.copy(1, RANGE), Steps.copy(2, kind), Steps.find());
            judged("GREATER, R1 " + name(kind), fit, 0, Steps.copy(1, kind), Steps.copy(2, RANGE), Steps.greater());
            judged("GREATER, R2 " + name(kind), fit, 0, Steps.copy(1, RANGE), Steps.copy(2, kind), Steps.greater());
            judged("COUNT, R1 and R2 " + name(kind), FITS, 0, Steps.copy(1, kind), Steps.copy(2, kind),
                    Steps.countCalls());
            judged("GO " + name(kind), FITS, 0, new int[] {13, kind, kind, 0, 0});
        }
    }

    private static void r0OfExit() {
        Expect.sentence("4: GUESSES of the right kind: RANGES (17: R0)");
        for (int kind : ALL) {
            judged("EXIT, R0 " + name(kind), reason(kind, RANGE), 0, Steps.copy(0, kind), Steps.exit());
            judged("EXIT, D and S " + name(kind), FITS, 0, Steps.copy(5, kind), Steps.set(0, 0),
                    new int[] {17, 5, 5, 0, 0});
        }
    }

    private static void cellsThatStoreMayMean() {
        Expect.sentence("each of them that has a RANGE, the EMPTY ones stay so, others: REASON 4");
        // The store may mean cells 1, 2 and 3.
        for (int c = 0; c <= 4; c++) {
            for (int kind : ALL) {
                int reason = c >= 1 && c <= 3 ? reason(kind, RANGE) : FITS;
                judged("cell " + c + " " + name(kind), reason, 2, Steps.store(FRAME, c, kind),
                        Steps.store(SEVERAL, 1, RANGE));
            }
        }
        // The same with an S that is far from the offsets.
        for (int c = 0; c <= 4; c++) {
            int reason = c >= 1 && c <= 3 ? 4 : FITS;
            judged("cell " + c + " a place, 50 .. 52 stored", reason, 2, Steps.plus(5, 50),
                    Steps.store(FRAME, c, FRAME), Steps.store(SEVERAL, 1, RANGE));
        }
        judged("all empty", FITS, 2, Steps.store(SEVERAL, 1, RANGE));
        judged("all stay empty", 6, 2, Steps.store(SEVERAL, 1, RANGE), Steps.load(0, FRAME, 2));
        judged("one of a row's cells, whatever the frame holds", FITS, 1, Steps.store(FRAME, 0, FRAME),
                Steps.store(FRAME, 1, MAYBE), Steps.plusReg(0, 5), Steps.store(0, 0, RANGE));
    }

    private static void cellsThatAreNotThere() {
        Expect.sentence("others, of those that are there: REASON 4");
        for (int kind : ALL) {
            int or5 = kind == RANGE ? 5 : 4;
            judged("cells -1 and 0, 0 is " + name(kind), or5, 1, Steps.store(FRAME, 0, kind),
                    Steps.store(SEVERAL, -1, RANGE));
            judged("cells 5 and 6, 5 is " + name(kind), or5, 1, Steps.store(FRAME, 5, kind),
                    Steps.store(SEVERAL, 5, RANGE));
            judged("cells -1 and 0, 1 is " + name(kind), 5, 1, Steps.store(FRAME, 1, kind),
                    Steps.store(SEVERAL, -1, RANGE));
            judged("cells 5 and 6, 4 is " + name(kind), 5, 1, Steps.store(FRAME, 4, kind),
                    Steps.store(SEVERAL, 5, RANGE));
            judged("cells -1 .. 6, 3 is " + name(kind), or5, 7, Steps.store(FRAME, 3, kind),
                    Steps.store(SEVERAL, -1, RANGE));
            judged("cells 6 and 7, 5 is " + name(kind), 5, 1, Steps.store(FRAME, 5, kind),
                    Steps.store(SEVERAL, 6, RANGE));
            judged("cells far away, 0 is " + name(kind), 5, 1, Steps.store(FRAME, 0, kind),
                    Steps.store(SEVERAL, Integer.MAX_VALUE, RANGE));
        }
    }

    private static void otherStepsMeanNoCells() {
        Expect.sentence("STORE (no other op): others, of those that are there: REASON 4");
        // D is a place that may mean cells 0 and 1, which hold places.
        int[][] others = {Steps.set(SEVERAL, 0), Steps.copy(SEVERAL, RANGE), Steps.plus(SEVERAL, 0),
            Steps.plusReg(SEVERAL, RANGE), Steps.load(SEVERAL, FRAME, 0), new int[] {13, SEVERAL, SEVERAL, 0, 0},
            new int[] {16, SEVERAL, SEVERAL, 0, 0}};
        for (int[] step : others) {
            judged("op " + step[0], FITS, 1, Steps.store(FRAME, 0, FRAME), Steps.store(FRAME, 1, MAYBE), step);
        }
    }
}
