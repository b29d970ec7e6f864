import java.util.NoSuchElementException;

/**
 * A machine for small programs that run only after a checker has gone down all their ways.
 * The document's promises are told in ../shared/DOC.md; README.md says how to use the class.
 */
public final class CheckedMachine {
    private static final int MOST_STEPS = 24;
    private static final int MOST_LOOKED = 300;
    private static final int REGISTERS = 6;
    private static final int CELLS = 6;
    private static final int ROWS = 6;
    private static final int ROW_CELLS = 2;
    private static final int FARTHEST = 100;
    private static final int LAST_KEY = 7;
    private static final int COUNT_ROUND = 100;
    private static final long FACTOR_BOUND = 1L << 31;

    // Registers and cells of the frame lie in one row of slots, the cells behind the registers.
    private static final int SLOTS = REGISTERS + CELLS;

    private static final int SET = 0;
    private static final int COPY = 1;
    private static final int ADD_NUMBER = 2;
    private static final int ADD_REGISTER = 3;
    private static final int SUBTRACT = 4;
    private static final int MULTIPLY = 5;
    private static final int AND = 6;
    private static final int SHIFT = 7;
    private static final int DIVIDE = 8;
    private static final int NEGATE = 9;
    private static final int EQUAL = 10;
    private static final int ABOVE = 11;
    private static final int BELOW = 12;
    private static final int GO = 13;
    private static final int LOAD = 14;
    private static final int STORE = 15;
    private static final int CALL = 16;
    private static final int EXIT = 17;

    private static final int CALL_COUNT = 0;
    private static final int CALL_FIND = 1;
    private static final int CALL_GREATER = 2;

    private static final int FITS = 0;
    private static final int NO_STEP = 1;
    private static final int EMPTY_USED = 2;
    private static final int BAD_NUMBER = 3;
    private static final int WRONG_KIND = 4;
    private static final int OUTSIDE = 5;
    private static final int UNFIT_CELL = 6;
    private static final int NO_ROW = 7;

    private static final int NOWHERE = -1;

    private static final int PASSED = 0;
    private static final int REJECTED = 1;
    private static final int TOO_LONG = 2;

    private final Program program;
    private final Checker checker;
    private final Runner runner;
    private boolean checked;

    public CheckedMachine() {
        program = new Program();
        checker = new Checker(program);
        runner = new Runner(program);
        checked = false;
    }

    public int add(int op, int d, int s, int number, int target)
            throws IllegalArgumentException, IllegalStateException {
        if (!Program.allows(op, d, s, target)) {
            throw new IllegalArgumentException("no such step can be");
        }
        if (program.size() >= MOST_STEPS) {
            throw new IllegalStateException("the program is full");
        }
        int i = program.grow();
        program.write(i, op, d, s, number, target);
        checked = false;
        return i;
    }

    public void put(int i, int op, int d, int s, int number, int target)
            throws IllegalArgumentException, NoSuchElementException {
        if (!Program.allows(op, d, s, target)) {
            throw new IllegalArgumentException("no such step can be");
        }
        if (i < 0 || i >= program.size()) {
            throw new NoSuchElementException("there is no such step");
        }
        program.write(i, op, d, s, number, target);
        checked = false;
    }

    public void cut(int n) throws IllegalArgumentException {
        if (n < 0 || n > program.size()) {
            throw new IllegalArgumentException("the program has not so many steps");
        }
        program.shorten(n);
        checked = false;
    }

    public int check() throws IllegalArgumentException, UnsupportedOperationException {
        int verdict = checker.goDownAllWays();
        checked = verdict == PASSED;
        if (verdict == REJECTED) {
            throw new IllegalArgumentException("the program is rejected");
        }
        if (verdict == TOO_LONG) {
            throw new UnsupportedOperationException("the program is too long");
        }
        return checker.looked();
    }

    public long run(long argument) throws IllegalStateException {
        if (!checked) {
            throw new IllegalStateException("the program is not checked");
        }
        return runner.runThrough(argument);
    }

    public long row(int r, int c) throws IllegalArgumentException {
        if (!isInMap(r, c)) {
            throw new IllegalArgumentException("there is no such cell");
        }
        return runner.mapCell(r, c);
    }

    public void fill(int r, int c, long v) throws IllegalArgumentException {
        if (!isInMap(r, c)) {
            throw new IllegalArgumentException("there is no such cell");
        }
        runner.setMapCell(r, c, v);
    }

    public long outcome(boolean high) throws IllegalStateException {
        if (!checked) {
            throw new IllegalStateException("the program is not checked");
        }
        return high ? checker.greatest() : checker.least();
    }

    public int count(int what) {
        switch (what) {
            case 0:
                return program.size();
            case 1:
                return checked ? 1 : 0;
            case 2:
                return checker.reason();
            case 3:
                return checker.rejectedAt();
            case 4:
                return checker.looked();
            case 5:
                return runner.stepsRun();
            case 6:
                return runner.countCalls();
            default:
                return -1;
        }
    }

    private static boolean isInMap(int r, int c) {
        return r >= 0 && r < ROWS && c >= 0 && c < ROW_CELLS;
    }

    /** One step of a program. */
    private static final class Step {
        int op;
        int d;
        int s;
        int number;
        int target;

        boolean isCallOf(int function) {
            return op == CALL && number == function;
        }

        boolean mayJump() {
            return op >= EQUAL && op <= GO;
        }

        boolean usesD() {
            return op >= ADD_NUMBER && op <= BELOW || op == STORE;
        }

        boolean usesS() {
            return op == COPY || op == ADD_REGISTER || op == SUBTRACT || op == BELOW
                    || op == LOAD || op == STORE;
        }
    }

    /** The steps, made once and written over, so that a long run of calls makes no new ones. */
    private static final class Program {
        private final Step[] steps;
        private int size;

        Program() {
            steps = new Step[MOST_STEPS];
            for (int i = 0; i < MOST_STEPS; i++) {
                steps[i] = new Step();
            }
            size = 0;
        }

        static boolean allows(int op, int d, int s, int target) {
            return op >= SET && op <= EXIT && isRegister(d) && isRegister(s)
                    && target >= 0 && target < MOST_STEPS;
        }

        private static boolean isRegister(int r) {
            return r >= 0 && r < REGISTERS;
        }

        int size() {
            return size;
        }

        int grow() {
            if (size < MOST_STEPS) {
                size++;
            }
            return size - 1;
        }

        void shorten(int n) {
            size = n;
        }

        void write(int i, int op, int d, int s, int number, int target) {
            Step step = stepAt(i);
            if (step == null) {
                return;
            }
            step.op = op;
            step.d = d;
            step.s = s;
            step.number = number;
            step.target = target;
        }

        Step stepAt(int i) {
            return i >= 0 && i < size && i < MOST_STEPS ? steps[i] : null;
        }
    }

    /** What may be in each register and cell of the frame, on one way. */
    private static final class Guesses {
        static final int EMPTY = 0;
        static final int RANGE = 1;
        static final int FRAME_PLACE = 2;
        static final int ROW_PLACE = 3;
        static final int MAYBE = 4;

        private final int[] kinds;
        private final long[] los;
        private final long[] his;

        Guesses() {
            kinds = new int[SLOTS];
            los = new long[SLOTS];
            his = new long[SLOTS];
        }

        void begin() {
            for (int slot = 0; slot < SLOTS; slot++) {
                clear(slot);
            }
            setAny(1);
            set(2, FRAME_PLACE, 0, 0);
        }

        void become(Guesses other) {
            System.arraycopy(other.kinds, 0, kinds, 0, SLOTS);
            System.arraycopy(other.los, 0, los, 0, SLOTS);
            System.arraycopy(other.his, 0, his, 0, SLOTS);
        }

        int kind(int slot) {
            return kinds[slot];
        }

        long lo(int slot) {
            return los[slot];
        }

        long hi(int slot) {
            return his[slot];
        }

        boolean isEmpty(int slot) {
            return kinds[slot] == EMPTY;
        }

        boolean isRange(int slot) {
            return kinds[slot] == RANGE;
        }

        boolean isPlace(int slot) {
            return kinds[slot] == FRAME_PLACE || kinds[slot] == ROW_PLACE;
        }

        void set(int slot, int kind, long lo, long hi) {
            kinds[slot] = kind;
            los[slot] = lo;
            his[slot] = hi;
        }

        void setRange(int slot, long lo, long hi) {
            set(slot, RANGE, lo, hi);
        }

        void setAny(int slot) {
            set(slot, RANGE, Long.MIN_VALUE, Long.MAX_VALUE);
        }

        void clear(int slot) {
            set(slot, EMPTY, 0, 0);
        }

        void copy(int to, int from) {
            set(to, kinds[from], los[from], his[from]);
        }

        void widen(int slot, long lo, long hi) {
            set(slot, RANGE, Math.min(los[slot], lo), Math.max(his[slot], hi));
        }

        void setBetween(int slot, long one, long other) {
            set(slot, RANGE, Math.min(one, other), Math.max(one, other));
        }
    }

    /** Finds the least reason for which a step can't be let through. */
    private static final class Judge {
        private final Program program;
        private final Guesses now;

        Judge(Program program, Guesses now) {
            this.program = program;
            this.now = now;
        }

        int reasonAgainst(Step step, int at) {
            if (step == null || lacksTarget(step, at)) {
                return NO_STEP;
            }
            if (usesEmpty(step)) {
                return EMPTY_USED;
            }
            if (hasBadNumber(step)) {
                return BAD_NUMBER;
            }
            if (hasWrongKind(step) || storesOverNoRange(step)) {
                return WRONG_KIND;
            }
            if (goesOutside(step)) {
                return OUTSIDE;
            }
            if (loadsUnfitCell(step)) {
                return UNFIT_CELL;
            }
            return findsNoRow(step) ? NO_ROW : FITS;
        }

        private boolean lacksTarget(Step step, int at) {
            return step.mayJump() && (step.target <= at || step.target >= program.size());
        }

        private boolean usesEmpty(Step step) {
            if (step.op == CALL) {
                return step.number == CALL_FIND && now.isEmpty(1)
                        || step.number == CALL_GREATER && (now.isEmpty(1) || now.isEmpty(2));
            }
            if (step.op == EXIT) {
                return now.isEmpty(0);
            }
            return step.usesD() && now.isEmpty(step.d) || step.usesS() && now.isEmpty(step.s);
        }

        private static boolean hasBadNumber(Step step) {
            switch (step.op) {
                case SHIFT:
                    return step.number < 0 || step.number > 63;
                case DIVIDE:
                    return step.number == 0;
                case CALL:
                    return step.number < CALL_COUNT || step.number > CALL_GREATER;
                default:
                    return false;
            }
        }

        private boolean hasWrongKind(Step step) {
            switch (step.op) {
                case COPY:
                    return false;
                case ADD_NUMBER:
                    return !isRangeOrPlace(step.d);
                case ADD_REGISTER:
                    return !isRangeOrPlace(step.d) || !now.isRange(step.s);
                case EQUAL:
                    return !now.isRange(step.d) && !isMaybeMissing(step);
                case LOAD:
                    return !now.isPlace(step.s);
                case STORE:
                    return storesWrongKind(step);
                case CALL:
                    return callsWithWrongKind(step);
                case EXIT:
                    return !now.isRange(0);
                default:
                    return step.usesD() && !now.isRange(step.d) || step.usesS() && !now.isRange(step.s);
            }
        }

        private boolean isRangeOrPlace(int slot) {
            return now.isRange(slot) || now.isPlace(slot);
        }

        private boolean isMaybeMissing(Step step) {
            return now.kind(step.d) == Guesses.MAYBE && step.number == 0;
        }

        private boolean callsWithWrongKind(Step step) {
            return step.number == CALL_FIND && !now.isRange(1)
                    || step.number == CALL_GREATER && (!now.isRange(1) || !now.isRange(2));
        }

        private boolean storesWrongKind(Step step) {
            if (!now.isPlace(step.d)) {
                return true;
            }
            return !isOneCellOfFrame(step.d) && !now.isRange(step.s);
        }

        private boolean isOneCellOfFrame(int slot) {
            return now.kind(slot) == Guesses.FRAME_PLACE && now.lo(slot) == now.hi(slot);
        }

        // Cells that are not there are left to the next reason, so only those that are count here.
        private boolean storesOverNoRange(Step step) {
            if (step.op != STORE || now.kind(step.d) != Guesses.FRAME_PLACE || isOneCellOfFrame(step.d)) {
                return false;
            }
            long first = now.lo(step.d) + step.number;
            long last = now.hi(step.d) + step.number;
            for (int cell = 0; cell < CELLS; cell++) {
                int slot = REGISTERS + cell;
                if (cell >= first && cell <= last && !now.isEmpty(slot) && !now.isRange(slot)) {
                    return true;
                }
            }
            return false;
        }

        private boolean goesOutside(Step step) {
            switch (step.op) {
                case ADD_NUMBER:
                    return movesTooFar(step.d, step.number, step.number);
                case ADD_REGISTER:
                    return movesTooFar(step.d, now.lo(step.s), now.hi(step.s));
                case LOAD:
                    return missesCells(step.s, step.number);
                case STORE:
                    return missesCells(step.d, step.number);
                default:
                    return false;
            }
        }

        // Offsets are small, so a sum that wraps still lies far outside.
        private boolean movesTooFar(int slot, long lo, long hi) {
            return now.isPlace(slot)
                    && (now.lo(slot) + lo < -FARTHEST || now.lo(slot) + lo > FARTHEST
                    || now.hi(slot) + hi < -FARTHEST || now.hi(slot) + hi > FARTHEST);
        }

        private boolean missesCells(int slot, long number) {
            int cells = now.kind(slot) == Guesses.FRAME_PLACE ? CELLS : ROW_CELLS;
            return now.lo(slot) + number < 0 || now.hi(slot) + number >= cells;
        }

        private boolean loadsUnfitCell(Step step) {
            if (step.op != LOAD || now.kind(step.s) != Guesses.FRAME_PLACE) {
                return false;
            }
            long first = now.lo(step.s) + step.number;
            long last = now.hi(step.s) + step.number;
            for (int cell = 0; cell < CELLS; cell++) {
                int slot = REGISTERS + cell;
                boolean fits = first == last ? !now.isEmpty(slot) : now.isRange(slot);
                if (cell >= first && cell <= last && !fits) {
                    return true;
                }
            }
            return false;
        }

        private boolean findsNoRow(Step step) {
            return step.isCallOf(CALL_FIND) && (now.lo(1) < 0 || now.hi(1) > LAST_KEY);
        }
    }

    /** What comes of a step that doesn't jump and was let through. */
    private static final class Effects {
        private final Guesses now;

        Effects(Guesses now) {
            this.now = now;
        }

        void follow(Step step) {
            int d = step.d;
            switch (step.op) {
                case SET:
                    now.setRange(d, step.number, step.number);
                    break;
                case COPY:
                    now.copy(d, step.s);
                    break;
                case ADD_NUMBER:
                    move(d, step.number, step.number);
                    break;
                case ADD_REGISTER:
                    move(d, now.lo(step.s), now.hi(step.s));
                    break;
                case SUBTRACT:
                    subtract(d, now.lo(step.s), now.hi(step.s));
                    break;
                case MULTIPLY:
                    multiply(d, step.number);
                    break;
                case AND:
                    mask(d, step.number);
                    break;
                case SHIFT:
                    now.setRange(d, now.lo(d) >> step.number, now.hi(d) >> step.number);
                    break;
                case DIVIDE:
                    divide(d, step.number);
                    break;
                case NEGATE:
                    negate(d);
                    break;
                case LOAD:
                    load(step);
                    break;
                case STORE:
                    store(step);
                    break;
                case CALL:
                    call(step.number);
                    break;
                default:
                    break;
            }
        }

        private void move(int d, long byLo, long byHi) {
            long lo = now.lo(d) + byLo;
            long hi = now.hi(d) + byHi;
            if (sumWraps(now.lo(d), byLo, lo) || sumWraps(now.hi(d), byHi, hi)) {
                now.setAny(d);
            } else {
                now.set(d, now.kind(d), lo, hi);
            }
        }

        private static boolean sumWraps(long a, long b, long sum) {
            return ((a ^ sum) & (b ^ sum)) < 0;
        }

        private void subtract(int d, long byLo, long byHi) {
            long lo = now.lo(d) - byHi;
            long hi = now.hi(d) - byLo;
            if (differenceWraps(now.lo(d), byHi, lo) || differenceWraps(now.hi(d), byLo, hi)) {
                now.setAny(d);
            } else {
                now.setRange(d, lo, hi);
            }
        }

        private static boolean differenceWraps(long a, long b, long difference) {
            return ((a ^ b) & (a ^ difference)) < 0;
        }

        private void multiply(int d, long n) {
            if (isFactor(now.lo(d)) && isFactor(now.hi(d))) {
                now.setBetween(d, now.lo(d) * n, now.hi(d) * n);
            } else {
                now.setAny(d);
            }
        }

        private static boolean isFactor(long v) {
            return v >= -FACTOR_BOUND && v <= FACTOR_BOUND;
        }

        private void mask(int d, long n) {
            if (now.lo(d) == now.hi(d)) {
                now.setRange(d, now.lo(d) & n, now.lo(d) & n);
            } else if (n < 0) {
                now.setAny(d);
            } else {
                now.setRange(d, 0, now.lo(d) < 0 ? n : Math.min(n, now.hi(d)));
            }
        }

        private void divide(int d, long n) {
            if (n == 0 || n == -1 && now.lo(d) == Long.MIN_VALUE) {
                now.setAny(d);
            } else {
                now.setBetween(d, now.lo(d) / n, now.hi(d) / n);
            }
        }

        private void negate(int d) {
            if (now.lo(d) == Long.MIN_VALUE) {
                now.setAny(d);
            } else {
                now.setRange(d, -now.hi(d), -now.lo(d));
            }
        }

        private void load(Step step) {
            if (now.kind(step.s) != Guesses.FRAME_PLACE) {
                now.setAny(step.d);
                return;
            }
            long first = now.lo(step.s) + step.number;
            long last = now.hi(step.s) + step.number;
            for (int cell = 0; cell < CELLS; cell++) {
                int slot = REGISTERS + cell;
                if (cell == first) {
                    now.copy(step.d, slot);
                } else if (cell > first && cell <= last) {
                    now.widen(step.d, now.lo(slot), now.hi(slot));
                }
            }
        }

        private void store(Step step) {
            if (now.kind(step.d) != Guesses.FRAME_PLACE) {
                return;
            }
            long first = now.lo(step.d) + step.number;
            long last = now.hi(step.d) + step.number;
            for (int cell = 0; cell < CELLS; cell++) {
                int slot = REGISTERS + cell;
                if (cell == first && first == last) {
                    now.copy(slot, step.s);
                } else if (cell >= first && cell <= last && now.isRange(slot)) {
                    now.widen(slot, now.lo(step.s), now.hi(step.s));
                }
            }
        }

        private void call(int function) {
            if (function == CALL_COUNT) {
                now.setRange(0, 0, COUNT_ROUND - 1);
            } else if (function == CALL_FIND) {
                now.set(0, Guesses.MAYBE, 0, 0);
            } else {
                now.setRange(0, Math.max(now.lo(1), now.lo(2)), Math.max(now.hi(1), now.hi(2)));
            }
            now.clear(1);
            now.clear(2);
            now.clear(3);
        }
    }

    /** The two ways of a step that may jump: on to the next step, or to its target. */
    private static final class Fork {
        private Fork() {
        }

        static boolean leadsToTarget(Step step, Guesses g) {
            switch (step.op) {
                case EQUAL:
                    return isMaybe(step, g) || g.lo(step.d) <= step.number && step.number <= g.hi(step.d);
                case ABOVE:
                    return g.hi(step.d) > step.number;
                case BELOW:
                    return step.d != step.s && g.lo(step.d) < g.hi(step.s);
                default:
                    return true;
            }
        }

        static boolean leadsOn(Step step, Guesses g) {
            switch (step.op) {
                case EQUAL:
                    return isMaybe(step, g) || g.lo(step.d) != step.number || g.hi(step.d) != step.number;
                case ABOVE:
                    return g.lo(step.d) <= step.number;
                case BELOW:
                    return step.d == step.s || g.hi(step.d) >= g.lo(step.s);
                default:
                    return false;
            }
        }

        static void goToTarget(Step step, Guesses g) {
            int d = step.d;
            long n = step.number;
            if (step.op == EQUAL) {
                g.setRange(d, n, n);
            } else if (step.op == ABOVE) {
                g.setRange(d, Math.max(g.lo(d), n + 1), g.hi(d));
            } else if (step.op == BELOW) {
                long dLo = g.lo(d);
                long sHi = g.hi(step.s);
                g.setRange(d, dLo, Math.min(g.hi(d), sHi - 1));
                g.setRange(step.s, Math.max(g.lo(step.s), dLo + 1), sHi);
            }
        }

        static void goOn(Step step, Guesses g) {
            int d = step.d;
            long n = step.number;
            if (step.op == EQUAL && isMaybe(step, g)) {
                g.set(d, Guesses.ROW_PLACE, 0, 0);
            } else if (step.op == EQUAL) {
                g.setRange(d, g.lo(d) == n ? n + 1 : g.lo(d), g.hi(d) == n ? n - 1 : g.hi(d));
            } else if (step.op == ABOVE) {
                g.setRange(d, g.lo(d), Math.min(g.hi(d), n));
            } else if (step.op == BELOW && d != step.s) {
                long dHi = g.hi(d);
                long sLo = g.lo(step.s);
                g.setRange(d, Math.max(g.lo(d), sLo), dHi);
                g.setRange(step.s, sLo, Math.min(g.hi(step.s), dHi));
            }
        }

        private static boolean isMaybe(Step step, Guesses g) {
            return g.kind(step.d) == Guesses.MAYBE;
        }
    }

    /** Goes down every way of a program, the next step's before the target's. */
    private static final class Checker {
        private final Program program;
        private final Guesses now;
        private final Judge judge;
        private final Effects effects;
        // Targets lie behind their steps, so a step has never more than one way open,
        // and the latest way left open is that of the last step that has one.
        private final Guesses[] left;
        private final boolean[] open;
        private int verdict;
        private int looked;
        private int reason;
        private int rejectedAt;
        private boolean exited;
        private long least;
        private long greatest;

        Checker(Program program) {
            this.program = program;
            now = new Guesses();
            judge = new Judge(program, now);
            effects = new Effects(now);
            left = new Guesses[MOST_STEPS];
            for (int i = 0; i < MOST_STEPS; i++) {
                left[i] = new Guesses();
            }
            open = new boolean[MOST_STEPS];
        }

        int looked() {
            return looked;
        }

        int reason() {
            return reason;
        }

        int rejectedAt() {
            return rejectedAt;
        }

        long least() {
            return least;
        }

        long greatest() {
            return greatest;
        }

        int goDownAllWays() {
            begin();
            int at = 0;
            for (int i = 0; i < MOST_LOOKED && at != NOWHERE; i++) {
                looked++;
                at = lookAt(at);
            }
            if (at != NOWHERE) {
                verdict = TOO_LONG;
            }
            return verdict;
        }

        private void begin() {
            now.begin();
            for (int i = 0; i < MOST_STEPS; i++) {
                open[i] = false;
            }
            verdict = PASSED;
            looked = 0;
            exited = false;
        }

        private int lookAt(int at) {
            Step step = program.stepAt(at);
            int against = judge.reasonAgainst(step, at);
            if (step == null || against != FITS) {
                reject(against, at);
                return NOWHERE;
            }
            if (step.op == EXIT) {
                growOutcomes(now.lo(0), now.hi(0));
                return takeUpLatest();
            }
            if (step.mayJump()) {
                return fork(step, at);
            }
            effects.follow(step);
            return at + 1;
        }

        private void reject(int against, int at) {
            verdict = REJECTED;
            reason = against;
            rejectedAt = at;
        }

        private void growOutcomes(long lo, long hi) {
            least = exited ? Math.min(least, lo) : lo;
            greatest = exited ? Math.max(greatest, hi) : hi;
            exited = true;
        }

        private int fork(Step step, int at) {
            boolean toTarget = Fork.leadsToTarget(step, now);
            if (!Fork.leadsOn(step, now)) {
                Fork.goToTarget(step, now);
                return step.target;
            }
            if (toTarget) {
                left[at].become(now);
                Fork.goToTarget(step, left[at]);
                open[at] = true;
            }
            Fork.goOn(step, now);
            return at + 1;
        }

        private int takeUpLatest() {
            for (int i = MOST_STEPS - 1; i >= 0; i--) {
                Step step = program.stepAt(i);
                if (open[i] && step != null) {
                    open[i] = false;
                    now.become(left[i]);
                    return step.target;
                }
            }
            return NOWHERE;
        }
    }

    /** Runs a program that was let through; keeps the map and COUNT's calls from run to run. */
    private static final class Runner {
        private static final int EMPTY = 0;
        private static final int NUMBER = 1;
        private static final int IN_FRAME = 2;
        // Row r's places have this kind and r more.
        private static final int IN_FIRST_ROW = 3;

        private final Program program;
        private final long[][] map;
        private final int[] kinds;
        // A number, or the offset of a place.
        private final long[] values;
        private int stepsRun;
        private int countCalls;

        Runner(Program program) {
            this.program = program;
            map = new long[ROWS][ROW_CELLS];
            kinds = new int[SLOTS];
            values = new long[SLOTS];
            stepsRun = 0;
            countCalls = 0;
        }

        int stepsRun() {
            return stepsRun;
        }

        int countCalls() {
            return countCalls;
        }

        long mapCell(int r, int c) {
            return isInMap(r, c) ? map[r][c] : 0;
        }

        void setMapCell(int r, int c, long v) {
            if (isInMap(r, c)) {
                map[r][c] = v;
            }
        }

        long runThrough(long argument) {
            for (int slot = 0; slot < SLOTS; slot++) {
                set(slot, EMPTY, 0);
            }
            set(1, NUMBER, argument);
            set(2, IN_FRAME, 0);
            stepsRun = 0;
            int at = 0;
            // Jumps go forward, so no step is run twice.
            for (int i = 0; i < MOST_STEPS && at != NOWHERE; i++) {
                stepsRun++;
                at = runStep(at);
            }
            return values[0];
        }

        private void set(int slot, int kind, long value) {
            kinds[slot] = kind;
            values[slot] = value;
        }

        private int runStep(int at) {
            Step step = program.stepAt(at);
            if (step == null || step.op == EXIT) {
                return NOWHERE;
            }
            if (step.mayJump()) {
                return jumps(step) ? step.target : at + 1;
            }
            if (step.op >= LOAD) {
                reachOut(step);
            } else {
                reckon(step);
            }
            return at + 1;
        }

        private boolean jumps(Step step) {
            switch (step.op) {
                case EQUAL:
                    return kinds[step.d] == NUMBER && values[step.d] == step.number;
                case ABOVE:
                    return values[step.d] > step.number;
                case BELOW:
                    return values[step.d] < values[step.s];
                default:
                    return true;
            }
        }

        private void reckon(Step step) {
            int d = step.d;
            long n = step.number;
            switch (step.op) {
                case SET:
                    set(d, NUMBER, n);
                    break;
                case COPY:
                    set(d, kinds[step.s], values[step.s]);
                    break;
                case ADD_NUMBER:
                    values[d] += n;
                    break;
                case ADD_REGISTER:
                    values[d] += values[step.s];
                    break;
                case SUBTRACT:
                    values[d] -= values[step.s];
                    break;
                case MULTIPLY:
                    values[d] *= n;
                    break;
                case AND:
                    values[d] &= n;
                    break;
                case SHIFT:
                    values[d] >>= step.number;
                    break;
                case DIVIDE:
                    values[d] = n == 0 ? 0 : values[d] / n;
                    break;
                case NEGATE:
                    values[d] = -values[d];
                    break;
                default:
                    break;
            }
        }

        private void reachOut(Step step) {
            if (step.op == LOAD) {
                load(step.d, kinds[step.s], values[step.s] + step.number);
            } else if (step.op == STORE) {
                store(step.s, kinds[step.d], values[step.d] + step.number);
            } else {
                call(step.number);
            }
        }

        private void load(int to, int kind, long cell) {
            if (kind != IN_FRAME) {
                set(to, NUMBER, mapCell(kind - IN_FIRST_ROW, (int) cell));
            } else if (cell >= 0 && cell < CELLS) {
                int slot = REGISTERS + (int) cell;
                set(to, kinds[slot], values[slot]);
            }
        }

        private void store(int from, int kind, long cell) {
            if (kind != IN_FRAME) {
                setMapCell(kind - IN_FIRST_ROW, (int) cell, values[from]);
            } else if (cell >= 0 && cell < CELLS) {
                set(REGISTERS + (int) cell, kinds[from], values[from]);
            }
        }

        private void call(int function) {
            if (function == CALL_COUNT) {
                set(0, NUMBER, countCalls % COUNT_ROUND);
                countCalls++;
            } else if (function == CALL_FIND) {
                findRow(values[1]);
            } else {
                set(0, NUMBER, Math.max(values[1], values[2]));
            }
            set(1, EMPTY, 0);
            set(2, EMPTY, 0);
            set(3, EMPTY, 0);
        }

        private void findRow(long key) {
            if (key >= 0 && key < ROWS) {
                set(0, IN_FIRST_ROW + (int) key, 0);
            } else {
                set(0, NUMBER, 0);
            }
        }
    }
}
