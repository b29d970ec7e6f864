import java.math.BigInteger;
import java.util.ArrayList;
import java.util.List;

/**
 * The document said once more, in another way: guesses are values with exact ends, ways are
 * recursion, and a run breaks on anything that the checker should have kept out.
 */
final class PlainMachine {
    static final BigInteger LEAST = BigInteger.valueOf(Long.MIN_VALUE);
    static final BigInteger GREATEST = BigInteger.valueOf(Long.MAX_VALUE);
    private static final Guess ANY = new Guess("RANGE", LEAST, GREATEST);

    final List<int[]> steps = new ArrayList<>();
    final long[][] map = new long[6][2];
    boolean checked;
    int reason;
    int rejectedAt;
    int looked;
    int stepsRun;
    int countCalls;
    BigInteger least;
    BigInteger greatest;

    record Guess(String kind, BigInteger lo, BigInteger hi) {
        boolean is(String other) {
            return kind.equals(other);
        }

        boolean isPlace() {
            return is("FRAME") || is("ROW");
        }
    }

    /** A place: row -1 is the frame. */
    record Place(int row, int offset) {
    }

    private static final class Rejected extends RuntimeException {
        private static final long serialVersionUID = 1;

        final int reason;
        final int at;

        Rejected(int reason, int at) {
            this.reason = reason;
            this.at = at;
        }
    }

    private static final class TooLong extends RuntimeException {
        private static final long serialVersionUID = 1;
    }

    /** What the checker knows on one way; never changed, each change makes another. */
    private record Known(Guess[] regs, Guess[] frame) {
        Known withReg(int r, Guess g) {
            Guess[] other = regs.clone();
            other[r] = g;
            return new Known(other, frame);
        }

        Known withCell(int c, Guess g) {
            Guess[] other = frame.clone();
            other[c] = g;
            return new Known(regs, other);
        }
    }

    /** Answers "CHECKED", "REJECTED" or "TOO LONG". */
    String check() {
        checked = false;
        looked = 0;
        least = null;
        greatest = null;
        Guess[] regs = new Guess[6];
        regs[1] = ANY;
        regs[2] = new Guess("FRAME", BigInteger.ZERO, BigInteger.ZERO);
        try {
            goDown(0, new Known(regs, new Guess[6]));
        } catch (Rejected e) {
            reason = e.reason;
            rejectedAt = e.at;
            return "REJECTED";
        } catch (TooLong e) {
            return "TOO LONG";
        }
        checked = true;
        return "CHECKED";
    }

    private void goDown(int at, Known k) {
        if (looked == 300) {
            throw new TooLong();
        }
        looked++;
        demand(at < steps.size(), 1, at);
        int[] step = steps.get(at);
        int op = step[0];
        if (op >= 10 && op <= 13) {
            demand(step[4] > at && step[4] < steps.size(), 1, at);
        }
        demandFilled(step, at, k);
        demandNumber(step, at);
        demandKinds(step, at, k);
        demandReach(step, at, k);
        if (op == 17) {
            Guess r0 = k.regs[0];
            least = least == null ? r0.lo : least.min(r0.lo);
            greatest = greatest == null ? r0.hi : greatest.max(r0.hi);
        } else if (op == 13) {
            goDown(step[4], k);
        } else if (op >= 10 && op <= 12) {
            fork(step, at, k);
        } else {
            goDown(at + 1, after(step, k));
        }
    }

    private static void demand(boolean holds, int reason, int at) {
        if (!holds) {
            throw new Rejected(reason, at);
        }
    }

    private static void demandFilled(int[] step, int at, Known k) {
        // Which of D and S each op uses, by op.
        String[] uses = {"", "S", "D", "DS", "DS", "D", "D", "D", "D", "D", "D", "D", "DS", "", "S", "DS", "", "0"};
        String used = uses[step[0]];
        if (step[0] == 16) {
            used = step[3] == 1 ? "1" : step[3] == 2 ? "12" : "";
        }
        for (char c : used.toCharArray()) {
            int r = c == 'D' ? step[1] : c == 'S' ? step[2] : c - '0';
            demand(k.regs[r] != null, 2, at);
        }
    }

    private static void demandNumber(int[] step, int at) {
        int n = step[3];
        demand(step[0] != 7 || 0 <= n && n <= 63, 3, at);
        demand(step[0] != 8 || n != 0, 3, at);
        demand(step[0] != 16 || 0 <= n && n <= 2, 3, at);
    }

    private static void demandKinds(int[] step, int at, Known k) {
        Guess d = k.regs[step[1]];
        Guess s = k.regs[step[2]];
        int op = step[0];
        if (op == 2 || op == 3) {
            demand(d.is("RANGE") || d.isPlace(), 4, at);
        } else if (op == 10) {
            demand(d.is("RANGE") || d.is("MAYBE") && step[3] == 0, 4, at);
        } else if (op >= 4 && op <= 12) {
            demand(d.is("RANGE"), 4, at);
        }
        if (op == 3 || op == 4 || op == 12) {
            demand(s.is("RANGE"), 4, at);
        } else if (op == 14) {
            demand(s.isPlace(), 4, at);
        } else if (op == 15) {
            demandStorable(step, at, k, d, s);
        } else if (op == 16 && step[3] > 0) {
            demand(k.regs[1].is("RANGE"), 4, at);
            demand(step[3] == 1 || k.regs[2].is("RANGE"), 4, at);
        } else if (op == 17) {
            demand(k.regs[0].is("RANGE"), 4, at);
        }
    }

    private static void demandStorable(int[] step, int at, Known k, Guess d, Guess s) {
        demand(d.isPlace(), 4, at);
        if (d.is("ROW")) {
            demand(s.is("RANGE"), 4, at);
        } else if (!d.lo.equals(d.hi)) {
            demand(s.is("RANGE"), 4, at);
            for (int c : meant(d, step[3])) {
                if (c >= 0 && c <= 5 && k.frame[c] != null) {
                    demand(k.frame[c].is("RANGE"), 4, at);
                }
            }
        }
    }

    /** The cells that may be meant, or {-1} if they are far away. */
    private static int[] meant(Guess place, int n) {
        long lo = place.lo.longValueExact() + n;
        long hi = place.hi.longValueExact() + n;
        if (lo < -1000 || hi > 1000) {
            return new int[] {-1};
        }
        int[] cells = new int[(int) (hi - lo) + 1];
        for (int i = 0; i < cells.length; i++) {
            cells[i] = (int) lo + i;
        }
        return cells;
    }

    private static void demandReach(int[] step, int at, Known k) {
        Guess d = k.regs[step[1]];
        Guess s = k.regs[step[2]];
        int op = step[0];
        if ((op == 2 || op == 3) && d.isPlace()) {
            Guess moved = sum(d, op == 2 ? just(step[3]) : s);
            BigInteger far = BigInteger.valueOf(100);
            demand(moved.lo.abs().compareTo(far) <= 0 && moved.hi.abs().compareTo(far) <= 0, 5, at);
        }
        if (op == 14 || op == 15) {
            Guess place = op == 14 ? s : d;
            for (int c : meant(place, step[3])) {
                demand(c >= 0 && c <= (place.is("FRAME") ? 5 : 1), 5, at);
            }
        }
        if (op == 14 && s.is("FRAME")) {
            int[] cells = meant(s, step[3]);
            for (int c : cells) {
                demand(k.frame[c] != null && (cells.length == 1 || k.frame[c].is("RANGE")), 6, at);
            }
        }
        if (op == 16 && step[3] == 1) {
            Guess key = k.regs[1];
            demand(key.lo.signum() >= 0 && key.hi.compareTo(BigInteger.valueOf(7)) <= 0, 7, at);
        }
    }

    private static Guess just(long v) {
        return new Guess("RANGE", BigInteger.valueOf(v), BigInteger.valueOf(v));
    }

    private static Guess range(BigInteger lo, BigInteger hi) {
        boolean fits = lo.compareTo(LEAST) >= 0 && hi.compareTo(GREATEST) <= 0
                && hi.compareTo(LEAST) >= 0 && lo.compareTo(GREATEST) <= 0;
        return fits ? new Guess("RANGE", lo, hi) : ANY;
    }

    private static Guess between(BigInteger a, BigInteger b) {
        return range(a.min(b), a.max(b));
    }

    private static Guess sum(Guess a, Guess b) {
        return new Guess(a.kind, a.lo.add(b.lo), a.hi.add(b.hi));
    }

    private static Guess hull(Guess a, Guess b) {
        return new Guess("RANGE", a.lo.min(b.lo), a.hi.max(b.hi));
    }

    private Known after(int[] step, Known k) {
        int op = step[0];
        if (op == 15) {
            return stored(step, k);
        }
        if (op == 16) {
            return called(step[3], k);
        }
        Guess d = k.regs[step[1]];
        Guess s = k.regs[step[2]];
        BigInteger n = BigInteger.valueOf(step[3]);
        Guess out = switch (op) {
            case 0 -> just(step[3]);
            case 1 -> s;
            case 2, 3 -> {
                Guess moved = sum(d, op == 2 ? just(step[3]) : s);
                yield d.isPlace() ? moved : range(moved.lo, moved.hi);
            }
            case 4 -> range(d.lo.subtract(s.hi), d.hi.subtract(s.lo));
            case 5 -> small(d.lo) && small(d.hi) ? between(d.lo.multiply(n), d.hi.multiply(n)) : ANY;
            case 6 -> masked(d, n);
            case 7 -> range(d.lo.shiftRight(step[3]), d.hi.shiftRight(step[3]));
            case 8 -> step[3] == -1 && d.lo.equals(LEAST) ? ANY : between(d.lo.divide(n), d.hi.divide(n));
            case 9 -> range(d.hi.negate(), d.lo.negate());
            case 14 -> loaded(step, k, s);
            default -> throw new AssertionError("op " + op);
        };
        return k.withReg(step[1], out);
    }

    private static boolean small(BigInteger v) {
        return v.abs().compareTo(BigInteger.ONE.shiftLeft(31)) <= 0;
    }

    private static Guess masked(Guess d, BigInteger n) {
        if (d.lo.equals(d.hi)) {
            return range(d.lo.and(n), d.lo.and(n));
        }
        if (n.signum() < 0) {
            return ANY;
        }
        return range(BigInteger.ZERO, d.lo.signum() < 0 ? n : n.min(d.hi));
    }

    private static Guess loaded(int[] step, Known k, Guess s) {
        if (s.is("ROW")) {
            return ANY;
        }
        Guess out = null;
        for (int c : meant(s, step[3])) {
            out = out == null ? k.frame[c] : hull(out, k.frame[c]);
        }
        return out;
    }

    private static Known stored(int[] step, Known k) {
        Guess d = k.regs[step[1]];
        Guess s = k.regs[step[2]];
        if (d.is("ROW")) {
            return k;
        }
        int[] cells = meant(d, step[3]);
        if (cells.length == 1) {
            return k.withCell(cells[0], s);
        }
        Known out = k;
        for (int c : cells) {
            if (k.frame[c] != null) {
                out = out.withCell(c, hull(k.frame[c], s));
            }
        }
        return out;
    }

    private static Known called(int function, Known k) {
        Guess out;
        if (function == 0) {
            out = new Guess("RANGE", BigInteger.ZERO, BigInteger.valueOf(99));
        } else if (function == 1) {
            out = new Guess("MAYBE", BigInteger.ZERO, BigInteger.ZERO);
        } else {
            out = range(k.regs[1].lo.max(k.regs[2].lo), k.regs[1].hi.max(k.regs[2].hi));
        }
        return k.withReg(0, out).withReg(1, null).withReg(2, null).withReg(3, null);
    }

    private void fork(int[] step, int at, Known k) {
        int d = step[1];
        int s = step[2];
        Guess x = k.regs[d];
        Guess y = k.regs[s];
        BigInteger n = BigInteger.valueOf(step[3]);
        BigInteger one = BigInteger.ONE;
        Known here = null;
        Known there = null;
        if (step[0] == 10 && x.is("MAYBE")) {
            here = k.withReg(d, new Guess("ROW", BigInteger.ZERO, BigInteger.ZERO));
            there = k.withReg(d, just(0));
        } else if (step[0] == 10) {
            if (!(x.lo.equals(n) && x.hi.equals(n))) {
                BigInteger lo = x.lo.equals(n) ? x.lo.add(one) : x.lo;
                BigInteger hi = x.hi.equals(n) ? x.hi.subtract(one) : x.hi;
                here = k.withReg(d, range(lo, hi));
            }
            if (x.lo.compareTo(n) <= 0 && n.compareTo(x.hi) <= 0) {
                there = k.withReg(d, range(n, n));
            }
        } else if (step[0] == 11) {
            if (x.lo.compareTo(n) <= 0) {
                here = k.withReg(d, range(x.lo, x.hi.min(n)));
            }
            if (x.hi.compareTo(n) > 0) {
                there = k.withReg(d, range(x.lo.max(n.add(one)), x.hi));
            }
        } else if (d == s) {
            here = k;
        } else {
            if (x.hi.compareTo(y.lo) >= 0) {
                here = k.withReg(d, range(x.lo.max(y.lo), x.hi)).withReg(s, range(y.lo, y.hi.min(x.hi)));
            }
            if (x.lo.compareTo(y.hi) < 0) {
                there = k.withReg(d, range(x.lo, x.hi.min(y.hi.subtract(one))))
                        .withReg(s, range(y.lo.max(x.lo.add(one)), y.hi));
            }
        }
        if (here != null) {
            goDown(at + 1, here);
        }
        if (there != null) {
            goDown(step[4], there);
        }
    }

    long run(long argument) {
        Object[] regs = new Object[6];
        Object[] frame = new Object[6];
        regs[1] = argument;
        regs[2] = new Place(-1, 0);
        stepsRun = 0;
        int at = 0;
        while (true) {
            int[] step = steps.get(at);
            stepsRun++;
            if (step[0] == 17) {
                return (Long) regs[0];
            }
            at = jumps(step, regs) ? step[4] : at + 1;
            work(step, regs, frame);
        }
    }

    private static boolean jumps(int[] step, Object[] regs) {
        Object d = regs[step[1]];
        return switch (step[0]) {
            case 10 -> d.equals((long) step[3]);
            case 11 -> (Long) d > step[3];
            case 12 -> (Long) d < (Long) regs[step[2]];
            case 13 -> true;
            default -> false;
        };
    }

    private void work(int[] step, Object[] regs, Object[] frame) {
        Object d = regs[step[1]];
        Object s = regs[step[2]];
        int n = step[3];
        switch (step[0]) {
            case 0 -> regs[step[1]] = (long) n;
            case 1 -> regs[step[1]] = s;
            case 2 -> regs[step[1]] = moved(d, n);
            case 3 -> regs[step[1]] = moved(d, (Long) s);
            case 4 -> regs[step[1]] = (Long) d - (Long) s;
            case 5 -> regs[step[1]] = (Long) d * n;
            case 6 -> regs[step[1]] = (Long) d & n;
            case 7 -> regs[step[1]] = (Long) d >> n;
            case 8 -> regs[step[1]] = (Long) d / n;
            case 9 -> regs[step[1]] = -(Long) d;
            case 14 -> {
                Place p = (Place) s;
                Object v = p.row < 0 ? frame[p.offset + n] : (Object) map[p.row][p.offset + n];
                if (v == null) {
                    throw new AssertionError("an empty cell was loaded");
                }
                regs[step[1]] = v;
            }
            case 15 -> {
                Place p = (Place) d;
                if (p.row < 0) {
                    frame[p.offset + n] = s;
                } else {
                    map[p.row][p.offset + n] = (Long) s;
                }
            }
            case 16 -> callNow(n, regs);
            default -> {
            }
        }
    }

    private static Object moved(Object d, long by) {
        return d instanceof Place p ? new Place(p.row, Math.toIntExact(p.offset + by)) : (Object) ((Long) d + by);
    }

    private void callNow(int n, Object[] regs) {
        if (n == 0) {
            regs[0] = (long) (countCalls % 100);
            countCalls++;
        } else if (n == 1) {
            long key = (Long) regs[1];
            regs[0] = key == 6 || key == 7 ? (Object) 0L : new Place(Math.toIntExact(key), 0);
        } else {
            regs[0] = Math.max((Long) regs[1], (Long) regs[2]);
        }
        regs[1] = null;
        regs[2] = null;
        regs[3] = null;
    }
}
