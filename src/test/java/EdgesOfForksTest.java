/** What comes of EQUAL, ABOVE, BELOW and GO on each of their ways, at the edges, sentence by sentence. */
public final class EdgesOfForksTest {
    private static final long MIN = Expect.MIN;
    private static final long MAX = Expect.MAX;
    private static final int INT_MIN = Integer.MIN_VALUE;
    private static final int INT_MAX = Integer.MAX_VALUE;
    private static final int D = 3;
    private static final int S = 4;

    public static void main(String[] args) {
        equalThere();
        equalHere();
        equalMaybe();
        aboveThere();
        aboveHere();
        belowItself();
        belowThere();
        belowHere();
        go();
        otherRegistersStay();
        Expect.end();
    }

    /** Just these ways are gone down: the next step's answers 1, the target's 2. */
    private static void ways(String what, boolean here, boolean there, int[] fork, int[][] before) {
        int[][] all = forked(fork, before, Steps.list(Steps.set(0, 1)), Steps.list(Steps.set(0, 2)));
        Expect.outcomes(what + ", ways", here ? 1 : 2, there ? 2 : 1, all);
        CheckedMachine x = Expect.checked(what, all);
        Expect.due(what + ", looked at", x.count(4), before.length + 1 + (here ? 2 : 0) + (there ? 2 : 0));
    }

    private static int[][] forked(int[] fork, int[][] before, int[][] here, int[][] there) {
        fork[4] = before.length + 1 + here.length + 1;
        return Steps.join(before, Steps.list(fork), here, Steps.list(Steps.exit()), there, Steps.list(Steps.exit()));
    }

    /** Register r is lo .. hi on the way of the next step. */
    private static void here(String what, int r, long lo, long hi, int[] fork, int[][] before) {
        Expect.outcomes(what + ", here R" + r, lo, hi,
                forked(fork, before, Steps.list(Steps.copy(0, r)), oneOf(lo, hi)));
    }

    /** Register r is lo .. hi on the way of the target. */
    private static void there(String what, int r, long lo, long hi, int[] fork, int[][] before) {
        Expect.outcomes(what + ", there R" + r, lo, hi,
                forked(fork, before, oneOf(lo, hi), Steps.list(Steps.copy(0, r))));
    }

    /** R0 is one of lo .. hi, so that the way that isn't looked at hides nothing. */
    private static int[][] oneOf(long lo, long hi) {
        long nearest = Math.max(lo, Math.min(hi, 0));
        if (nearest == (int) nearest) {
            return Steps.list(Steps.set(0, (int) nearest));
        }
        return nearest > 0 ? Steps.join(Steps.greatest(0)) : Steps.least(0);
    }

    private static int[][] d(int lo, int hi) {
        return Steps.range(D, lo, hi);
    }

    private static int[][] ds(int dLo, int dHi, int sLo, int sHi) {
        return Steps.join(Steps.range(D, dLo, dHi), Steps.range(S, sLo, sHi));
    }

    private static void equalThere() {
        Expect.sentence("EQUAL, RANGE: on the WAY of the TARGET D is n .. n, but there is no such WAY if n isn't in d");
        for (int n = 2; n <= 10; n++) {
            boolean in = n >= 3 && n <= 9;
            ways("3 .. 9 equal " + n, true, in, Steps.equal(D, n, 0), d(3, 9));
            if (in) {
                there("3 .. 9 equal " + n, D, n, n, Steps.equal(D, n, 0), d(3, 9));
            }
        }
        for (int n : new int[] {INT_MIN, -1, 0, INT_MAX}) {
            ways("any equal " + n, true, true, Steps.equal(D, n, 0), Steps.any(D));
            there("any equal " + n, D, n, n, Steps.equal(D, n, 0), Steps.any(D));
        }
        ways("greatest int + 1 equal least int", true, false, Steps.equal(D, INT_MIN, 0),
                Steps.list(Steps.set(D, INT_MAX), Steps.plus(D, 1)));
        ways("greatest long equal -1", true, false, Steps.equal(D, -1, 0), Steps.greatest(D));
        ways("least long equal 0", true, false, Steps.equal(D, 0, 0), Steps.least(D));
    }

    private static void equalHere() {
        Expect.sentence("on the other one, which there isn't if d is n .. n, D has the end that n is, if it "
                + "is one, off.");
        for (int n = 4; n <= 6; n++) {
            ways("5 equal " + n, n != 5, n == 5, Steps.equal(D, n, 0), d(5, 5));
        }
        ways("greatest int equal greatest int", false, true, Steps.equal(D, INT_MAX, 0), d(INT_MAX, INT_MAX));
        ways("least int equal least int", false, true, Steps.equal(D, INT_MIN, 0), d(INT_MIN, INT_MIN));
        here("5 equal 6", D, 5, 5, Steps.equal(D, 6, 0), d(5, 5));
        here("3 .. 9 equal 2", D, 3, 9, Steps.equal(D, 2, 0), d(3, 9));
        here("3 .. 9 equal 3", D, 4, 9, Steps.equal(D, 3, 0), d(3, 9));
        here("3 .. 9 equal 4", D, 3, 9, Steps.equal(D, 4, 0), d(3, 9));
        here("3 .. 9 equal 8", D, 3, 9, Steps.equal(D, 8, 0), d(3, 9));
        here("3 .. 9 equal 9", D, 3, 8, Steps.equal(D, 9, 0), d(3, 9));
        here("3 .. 9 equal 10", D, 3, 9, Steps.equal(D, 10, 0), d(3, 9));
        here("5 .. 6 equal 5", D, 6, 6, Steps.equal(D, 5, 0), d(5, 6));
        here("5 .. 6 equal 6", D, 5, 5, Steps.equal(D, 6, 0), d(5, 6));
        here("any equal 0", D, MIN, MAX, Steps.equal(D, 0, 0), Steps.any(D));
        here("up to greatest int equal greatest int", D, INT_MAX - 4, INT_MAX - 1, Steps.equal(D, INT_MAX, 0),
                d(INT_MAX - 4, INT_MAX));
        here("from least int equal least int", D, INT_MIN + 1, INT_MIN + 4, Steps.equal(D, INT_MIN, 0),
                d(INT_MIN, INT_MIN + 4));
    }

    private static void equalMaybe() {
        Expect.sentence("EQUAL, MAYBE: there D is 0 .. 0, here the ROW PLACE 0 .. 0.");
        int[][] found = {Steps.set(5, 7), Steps.set(1, 6), Steps.find(), Steps.copy(D, 0)};
        ways("maybe", true, true, Steps.equal(D, 0, 0), found);
        there("maybe", D, 0, 0, Steps.equal(D, 0, 0), found);
        for (int n = -1; n <= 2; n++) {
            int[][] all = forked(Steps.equal(D, 0, 0), found, Steps.list(Steps.store(D, n, 5), Steps.set(0, 1)),
                    Steps.list(Steps.set(0, 2)));
            if (n == 0 || n == 1) {
                Expect.checked("here, cell " + n, all);
            } else {
                Expect.rejected("here, cell " + n, 5, 5, 6, all);
            }
        }
        Expect.rejected("here it can't be missing any more", 4, 5, 6, forked(Steps.equal(D, 0, 0), found,
                Steps.list(Steps.equal(D, 0, 7)), Steps.list(Steps.set(0, 2))));
        Expect.rejected("there it is no place", 4, 7, 8, forked(Steps.equal(D, 0, 0), found,
                Steps.list(Steps.set(0, 1)), Steps.list(Steps.load(0, D, 0))));
    }

    private static void aboveThere() {
        Expect.sentence("ABOVE: there, if d.hi is above n, lo is the greater of d.lo and n + 1");
        for (int n = 1; n <= 10; n++) {
            ways("3 .. 9 above " + n, n >= 3, n < 9, Steps.above(D, n, 0), d(3, 9));
            if (n < 9) {
                there("3 .. 9 above " + n, D, Math.max(3, n + 1), 9, Steps.above(D, n, 0), d(3, 9));
            }
        }
        there("any above greatest int", D, INT_MAX + 1L, MAX, Steps.above(D, INT_MAX, 0), Steps.any(D));
        there("any above least int", D, INT_MIN + 1L, MAX, Steps.above(D, INT_MIN, 0), Steps.any(D));
        there("any above -1", D, 0, MAX, Steps.above(D, -1, 0), Steps.any(D));
        ways("greatest int above greatest int", true, false, Steps.above(D, INT_MAX, 0), d(INT_MAX, INT_MAX));
        ways("greatest long above greatest int", false, true, Steps.above(D, INT_MAX, 0), Steps.greatest(D));
    }

    private static void aboveHere() {
        Expect.sentence("here, if d.lo isn't above n, hi is the lesser of d.hi and n.");
        for (int n = 3; n <= 11; n++) {
            here("3 .. 9 above " + n, D, 3, Math.min(9, n), Steps.above(D, n, 0), d(3, 9));
        }
        ways("5 above 4", false, true, Steps.above(D, 4, 0), d(5, 5));
        ways("5 above 5", true, false, Steps.above(D, 5, 0), d(5, 5));
        here("any above greatest int", D, MIN, INT_MAX, Steps.above(D, INT_MAX, 0), Steps.any(D));
        here("any above least int", D, MIN, INT_MIN, Steps.above(D, INT_MIN, 0), Steps.any(D));
        ways("least int above least int", true, false, Steps.above(D, INT_MIN, 0), d(INT_MIN, INT_MIN));
        ways("least long above least int", true, false, Steps.above(D, INT_MIN, 0), Steps.least(D));
    }

    private static void belowItself() {
        Expect.sentence("BELOW, D and S one register: just here, unchanged");
        ways("3 .. 9", true, false, Steps.below(D, D, 0), d(3, 9));
        here("3 .. 9", D, 3, 9, Steps.below(D, D, 0), d(3, 9));
        ways("5", true, false, Steps.below(D, D, 0), d(5, 5));
        ways("any", true, false, Steps.below(D, D, 0), Steps.any(D));
        here("any", D, MIN, MAX, Steps.below(D, D, 0), Steps.any(D));
        int[][] copies = Steps.join(d(3, 9), Steps.list(Steps.copy(S, D)));
        ways("a copy is another register", true, true, Steps.below(D, S, 0), copies);
    }

    private static void belowThere() {
        Expect.sentence("else there, if d.lo < s.hi: d.hi is the lesser of d.hi and s.hi - 1, s.lo the "
                + "greater of s.lo and d.lo + 1");
        // d.lo .. d.hi, s.lo .. s.hi, then d.hi and s.lo there
        int[][] rows = {{0, 7, 4, 5, 4, 4}, {4, 5, 0, 7, 5, 5}, {0, 3, 4, 9, 3, 4}, {0, 4, 4, 9, 4, 4},
            {0, 8, 1, 9, 8, 1}, {0, 9, 0, 9, 8, 1}, {5, 9, 1, 6, 5, 6}, {5, 5, 6, 6, 5, 6}, {0, 9, 4, 9, 8, 4}};
        for (int[] r : rows) {
            String what = r[0] + " .. " + r[1] + " below " + r[2] + " .. " + r[3];
            there(what, D, r[0], r[4], Steps.below(D, S, 0), ds(r[0], r[1], r[2], r[3]));
            there(what, S, r[5], r[3], Steps.below(D, S, 0), ds(r[0], r[1], r[2], r[3]));
        }
        ways("5 .. 9 below 1 .. 6", true, true, Steps.below(D, S, 0), ds(5, 9, 1, 6));
        ways("5 .. 9 below 1 .. 5", true, false, Steps.below(D, S, 0), ds(5, 9, 1, 5));
        ways("5 .. 9 below 1 .. 4", true, false, Steps.below(D, S, 0), ds(5, 9, 1, 4));
        int[][] both = Steps.join(Steps.any(D), Steps.any(S));
        there("any below any", D, MIN, MAX - 1, Steps.below(D, S, 0), both);
        there("any below any", S, MIN + 1, MAX, Steps.below(D, S, 0), both);
        ways("any below least", true, false, Steps.below(D, S, 0), Steps.join(Steps.any(D), Steps.least(S)));
        ways("greatest below any", true, false, Steps.below(D, S, 0), Steps.join(Steps.greatest(D), Steps.any(S)));
        ways("least below any", true, true, Steps.below(D, S, 0), Steps.join(Steps.least(D), Steps.any(S)));
        ways("any below greatest", true, true, Steps.below(D, S, 0), Steps.join(Steps.any(D), Steps.greatest(S)));
    }

    private static void belowHere() {
        Expect.sentence("here, if d.hi >= s.lo: d.lo the greater of d.lo and s.lo, s.hi the lesser of s.hi and d.hi.");
        // d.lo .. d.hi, s.lo .. s.hi, then d.lo and s.hi here
        int[][] rows = {{0, 7, 4, 5, 4, 5}, {4, 5, 0, 7, 4, 5}, {1, 5, 5, 9, 5, 5}, {5, 9, 1, 5, 5, 5},
            {5, 9, 1, 4, 5, 4}, {0, 9, 0, 9, 0, 9}, {1, 6, 5, 9, 5, 6}};
        for (int[] r : rows) {
            String what = r[0] + " .. " + r[1] + " below " + r[2] + " .. " + r[3];
            here(what, D, r[4], r[1], Steps.below(D, S, 0), ds(r[0], r[1], r[2], r[3]));
            here(what, S, r[2], r[5], Steps.below(D, S, 0), ds(r[0], r[1], r[2], r[3]));
        }
        ways("1 .. 5 below 5 .. 9", true, true, Steps.below(D, S, 0), ds(1, 5, 5, 9));
        ways("1 .. 5 below 6 .. 9", false, true, Steps.below(D, S, 0), ds(1, 5, 6, 9));
        ways("5 below 5", true, false, Steps.below(D, S, 0), ds(5, 5, 5, 5));
        ways("5 below 6", false, true, Steps.below(D, S, 0), ds(5, 5, 6, 6));
        int[][] both = Steps.join(Steps.any(D), Steps.any(S));
        here("any below any", D, MIN, MAX, Steps.below(D, S, 0), both);
        here("any below any", S, MIN, MAX, Steps.below(D, S, 0), both);
        here("least below any", S, MIN, MIN, Steps.below(D, S, 0), Steps.join(Steps.least(D), Steps.any(S)));
        here("any below greatest", D, MAX, MAX, Steps.below(D, S, 0), Steps.join(Steps.any(D), Steps.greatest(S)));
        ways("least below greatest", false, true, Steps.below(D, S, 0), Steps.join(Steps.least(D), Steps.greatest(S)));
    }

    private static void go() {
        Expect.sentence("13 GO: the TARGET follows. (one WAY)");
        ways("go", false, true, Steps.go(0), d(3, 9));
        there("go", D, 3, 9, Steps.go(0), d(3, 9));
    }

    private static void otherRegistersStay() {
        Expect.sentence("on the WAY of the TARGET D is n .. n (and no other register or CELL)");
        int[][] before = Steps.join(d(3, 9), Steps.list(Steps.copy(5, D), Steps.store(2, 0, D)));
        int[][] forks = {Steps.equal(D, 4, 0), Steps.above(D, 4, 0)};
        for (int[] fork : forks) {
            there("op " + fork[0], 5, 3, 9, fork, before);
            here("op " + fork[0], 5, 3, 9, fork, before);
            int[][] load = Steps.list(Steps.load(0, 2, 0));
            Expect.outcomes("op " + fork[0] + ", the cell there", 3, 9,
                    forked(fork, before, Steps.list(Steps.set(0, 4)), load));
            Expect.outcomes("op " + fork[0] + ", the cell here", 3, 9,
                    forked(fork, before, load, Steps.list(Steps.set(0, 4))));
        }
        // What the next step's way does to registers and cells must not be seen on the target's.
        Expect.outcomes("a register changed here", 3, 9, forked(Steps.equal(D, 4, 0), before,
                Steps.list(Steps.set(5, 90), Steps.set(0, 4)), Steps.list(Steps.copy(0, 5))));
        Expect.outcomes("a cell changed here", 3, 9, forked(Steps.equal(D, 4, 0), before,
                Steps.list(Steps.set(5, 90), Steps.store(2, 0, 5), Steps.set(0, 4)),
                Steps.list(Steps.load(0, 2, 0))));
        Expect.rejected("a register filled here", 2, 6, 7, forked(Steps.equal(1, 4, 0), Steps.list(),
                Steps.list(Steps.set(5, 90), Steps.set(0, 4), Steps.store(2, 0, 5), Steps.copy(3, 0)),
                Steps.list(Steps.copy(0, 5))));
    }
}
