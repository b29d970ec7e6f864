/** A step's parts that its op doesn't use say nothing, to the checker and to a run. */
public final class EdgesOfPartsTest {
    private static final int[] NUMBERS = {Integer.MIN_VALUE, -100, -1, 0, 1, 2, 5, 64, Integer.MAX_VALUE};
    private static final int[] REGISTERS = {0, 1, 2, 3, 4, 5};
    private static final int[] TARGETS = {0, 10, 11, 12, 23};
    private static final int D = 1;
    private static final int S = 2;
    private static final int N = 3;
    private static final int TARGET = 4;
    // Where the target is one step beyond the next.
    private static final int BEYOND = 12;

    public static void main(String[] args) {
        Expect.sentence("0 SET: D is n. 1 COPY: D is S.");
        free(Steps.set(5, 30), S, TARGET);
        free(Steps.copy(5, 5), N, TARGET);
        Expect.sentence("2 ADD n to D, 3 ADD S to D. 4 SUBTRACT S from D.");
        free(Steps.plus(5, 30), S, TARGET);
        free(Steps.plus(4, 0), S, TARGET);
        free(Steps.plusReg(5, 5), N, TARGET);
        free(Steps.plusReg(2, 5), N, TARGET);
        free(Steps.minus(5, 5), N, TARGET);
        Expect.sentence("5 MULTIPLY D by n. 6 D AND n. 7 SHIFT D right by n. 8 DIVIDE D by n. 9 NEGATE D.");
        free(Steps.times(5, 3), S, TARGET);
        free(Steps.and(5, 6), S, TARGET);
        free(Steps.shift(5, 1), S, TARGET);
        free(Steps.divide(5, 2), S, TARGET);
        free(Steps.negate(5), S, N, TARGET);
        Expect.sentence("10 EQUAL: is D n? 11 ABOVE: is D above n? 12 BELOW: is D below S? 13 GO: the TARGET follows.");
        free(Steps.equal(5, 0, BEYOND), S);
        free(Steps.equal(5, 1, BEYOND), S);
        free(Steps.equal(3, 0, BEYOND), S);
        free(Steps.above(5, 0, BEYOND), S);
        free(Steps.below(5, 5, BEYOND), N);
        free(Steps.go(BEYOND), D, S, N);
        Expect.sentence("14 LOAD: D is the CELL at S's PLACE, n further on. 15 STORE: the CELL at D's PLACE, "
                + "n further on, is S.");
        free(Steps.load(5, 4, 0), TARGET);
        free(Steps.store(4, 0, 5), TARGET);
        Expect.sentence("16 CALL n: 0 COUNT; 1 FIND; 2 GREATER");
        free(Steps.countCalls(), D, S, TARGET);
        free(Steps.find(), D, S, TARGET);
        free(Steps.greater(), D, S, TARGET);
        Expect.sentence("17 EXIT: the answer is R0.");
        free(Steps.exit(), D, S, N, TARGET);
        Expect.end();
    }

    private static void free(int[] step, int... parts) {
        for (int part : parts) {
            for (int value : part == N ? NUMBERS : part == TARGET ? TARGETS : REGISTERS) {
                int[] other = step.clone();
                other[part] = value;
                String what = "op " + step[0] + ", " + "?dsnt".charAt(part) + " " + value;
                for (int seen = 0; seen < 3; seen++) {
                    same(what, machine(step, seen), machine(other, seen));
                }
            }
        }
    }

    /**
     * R5 is 0 .. 1, R4 the place of cell 0, which is 0 .. 1 too, R2 that of cell 0 or 1, R0 a row's, R3 may be missing;
     * then the step, a step that can be gone over, and one that shows R5, cell 0 or just goes on.
     */
    private static CheckedMachine machine(int[] step, int seen) {
        int[][] shown = {Steps.copy(0, 5), Steps.load(0, 4, 0), Steps.set(0, 9)};
        int[][] start = {Steps.and(1, 1), Steps.copy(5, 1), Steps.store(2, 0, 5), Steps.copy(4, 2), Steps.set(1, 3),
            Steps.find(), Steps.copy(3, 0), Steps.equal(0, 0, 16), Steps.copy(2, 4), Steps.plusReg(2, 5)};
        int[][] calling = {Steps.copy(1, 5), step.clone(), Steps.plus(5, 100), shown[seen]};
        int[][] other = {step.clone(), Steps.plus(5, 100), shown[seen], Steps.set(3, 0)};
        int[][] exiting = {Steps.set(0, 7), step.clone(), Steps.set(0, 8), Steps.exit()};
        int[][] middle = step[0] == 17 ? exiting : step[0] == 16 ? calling : other;
        if (step[0] == 16 && step[3] == 2) {
            start[9] = Steps.copy(2, 5);
        }
        return Expect.machine(Steps.join(start, middle, Steps.list(Steps.exit(), Steps.exit(), Steps.set(0, -1),
                Steps.exit())));
    }

    private static void same(String what, CheckedMachine plain, CheckedMachine other) {
        Expect.thrown(what + ", without", () -> plain.check(), Expect.NOTHING);
        Expect.thrown(what, () -> other.check(), Expect.NOTHING);
        for (int count = 0; count <= 6; count++) {
            Expect.due(what + ", count " + count, other.count(count), plain.count(count));
        }
        if (other.count(1) == 0 || plain.count(1) == 0) {
            return;
        }
        Expect.due(what + ", least", other.outcome(false), plain.outcome(false));
        Expect.due(what + ", greatest", other.outcome(true), plain.outcome(true));
        for (int argument = 0; argument <= 1; argument++) {
            Expect.due(what + ", run", other.run(argument), plain.run(argument));
            Expect.due(what + ", steps run", other.count(5), plain.count(5));
        }
    }
}
