/** The bounds of a program, and the edges of promises 1 to 4, sentence by sentence. */
public final class EdgesOfProgramTest {
    private static final int INT_MIN = Integer.MIN_VALUE;
    private static final int INT_MAX = Integer.MAX_VALUE;

    public static void main(String[] args) {
        atMostTwentyFour();
        ops();
        registers();
        numbers();
        targets();
        aNewObject();
        addAnswersNumbers();
        addToAFullProgram();
        putMakesAllOfAStep();
        putChangesOneStep();
        putWhereNoStepIs();
        putOfWhatIsNoStep();
        cutKeepsTheFirst();
        cutRefusesOthers();
        Expect.end();
    }

    private static CheckedMachine full() {
        CheckedMachine x = new CheckedMachine();
        for (int i = 0; i < 23; i++) {
            Expect.addTo(x, Steps.set(0, i));
        }
        Expect.addTo(x, Steps.exit());
        return x;
    }

    private static void atMostTwentyFour() {
        Expect.sentence("A PROGRAM has at most 24 STEPS, numbered from 0");
        CheckedMachine x = new CheckedMachine();
        for (int round = 0; round < 2; round++) {
            for (int i = 0; i < 24; i++) {
                Expect.due("add", Expect.addTo(x, Steps.set(0, 1)), i);
            }
            Expect.thrown("one more", () -> Expect.addTo(x, Steps.set(0, 1)), Expect.ILLEGAL_STATE);
            Expect.due("steps", x.count(0), 24);
            x.cut(0);
        }
    }

    /** A step of the op is refused, by add and by put alike, and changes nothing. */
    private static void refused(String what, int[] step) {
        CheckedMachine x = Expect.machine(Steps.set(0, 7), Steps.exit());
        x.check();
        Expect.thrown("add, " + what, () -> Expect.addTo(x, step), Expect.ILLEGAL_ARGUMENT);
        Expect.thrown("put, " + what, () -> Expect.putIn(x, 0, step), Expect.ILLEGAL_ARGUMENT);
        Expect.due(what + ", steps", x.count(0), 2);
        Expect.due(what + ", checked", x.count(1), 1);
        Expect.due(what + ", run", x.run(0), 7);
    }

    private static void taken(String what, int[] step) {
        CheckedMachine x = Expect.machine(Steps.set(0, 7));
        Expect.thrown("add, " + what, () -> Expect.addTo(x, step), Expect.NOTHING);
        Expect.thrown("put, " + what, () -> Expect.putIn(x, 0, step), Expect.NOTHING);
        Expect.due(what + ", steps", x.count(0), 2);
    }

    private static void ops() {
        Expect.sentence("A new STEP: op 0 .. 17");
        for (int op = 0; op <= 17; op++) {
            taken("op " + op, new int[] {op, 0, 0, 0, 0});
        }
        for (int op : new int[] {-1, 18, INT_MIN, INT_MAX}) {
            refused("op " + op, new int[] {op, 0, 0, 0, 0});
        }
    }

    private static void registers() {
        Expect.sentence("d and s 0 .. 5");
        for (int op = 0; op <= 17; op++) {
            for (int r = 0; r <= 5; r++) {
                taken("op " + op + ", d " + r, new int[] {op, r, 0, 0, 0});
                taken("op " + op + ", s " + r, new int[] {op, 0, r, 0, 0});
            }
            for (int r : new int[] {-1, 6, INT_MIN, INT_MAX}) {
                refused("op " + op + ", d " + r, new int[] {op, r, 0, 0, 0});
                refused("op " + op + ", s " + r, new int[] {op, 0, r, 0, 0});
            }
        }
    }

    private static void numbers() {
        Expect.sentence("a NUMBER n (an int)");
        for (int op = 0; op <= 17; op++) {
            for (int n : new int[] {INT_MIN, -1, 0, 64, INT_MAX}) {
                taken("op " + op + ", n " + n, new int[] {op, 0, 0, n, 0});
            }
        }
        Expect.outcomes("the least int", INT_MIN, INT_MIN, Steps.set(0, INT_MIN), Steps.exit());
        Expect.outcomes("the greatest int", INT_MAX, INT_MAX, Steps.set(0, INT_MAX), Steps.exit());
    }

    private static void targets() {
        Expect.sentence("target 0 .. 23");
        for (int op = 0; op <= 17; op++) {
            taken("op " + op + ", target 0", new int[] {op, 0, 0, 0, 0});
            taken("op " + op + ", target 23", new int[] {op, 0, 0, 0, 23});
            for (int target : new int[] {-1, 24, INT_MIN, INT_MAX}) {
                refused("op " + op + ", target " + target, new int[] {op, 0, 0, 0, target});
            }
        }
        CheckedMachine x = full();
        Expect.putIn(x, 0, Steps.set(0, 5));
        Expect.putIn(x, 1, Steps.go(23));
        Expect.due("go 23, looked at", x.check(), 3);
        Expect.due("go 23, run", x.run(0), 5);
    }

    private static void aNewObject() {
        Expect.sentence("`CheckedMachine()`: No STEPS.");
        CheckedMachine x = new CheckedMachine();
        for (int what = 0; what <= 6; what++) {
            Expect.due("count " + what, x.count(what), 0);
        }
        Expect.thrown("put", () -> Expect.putIn(x, 0, Steps.exit()), Expect.NO_ELEMENT);
        Expect.thrown("cut(1)", () -> x.cut(1), Expect.ILLEGAL_ARGUMENT);
        Expect.thrown("cut(0)", () -> x.cut(0), Expect.NOTHING);
        Expect.thrown("run", () -> x.run(0), Expect.ILLEGAL_STATE);
        Expect.thrown("outcome", () -> x.outcome(false), Expect.ILLEGAL_STATE);
        Expect.thrown("check", () -> x.check(), Expect.ILLEGAL_ARGUMENT);
        full();
        Expect.due("steps of another object", new CheckedMachine().count(0), 0);
    }

    private static void addAnswersNumbers() {
        Expect.sentence("Answers its number.");
        CheckedMachine x = new CheckedMachine();
        Expect.due("first", Expect.addTo(x, Steps.set(0, 1)), 0);
        Expect.due("second", Expect.addTo(x, Steps.exit()), 1);
        x.check();
        x.run(0);
        Expect.due("after check and run", Expect.addTo(x, Steps.exit()), 2);
        x.cut(1);
        Expect.due("after cut", Expect.addTo(x, Steps.exit()), 1);
        Expect.thrown("refused", () -> x.add(0, 6, 0, 0, 0), Expect.ILLEGAL_ARGUMENT);
        Expect.due("after a refusal", Expect.addTo(x, Steps.exit()), 2);
    }

    private static void addToAFullProgram() {
        Expect.sentence("24 are there: IllegalStateException.");
        CheckedMachine x = full();
        x.check();
        Expect.thrown("add", () -> Expect.addTo(x, Steps.set(0, 99)), Expect.ILLEGAL_STATE);
        Expect.thrown("add of what is no step", () -> x.add(0, 0, 6, 0, 0), Expect.ILLEGAL_ARGUMENT);
        Expect.due("steps", x.count(0), 24);
        Expect.due("checked", x.count(1), 1);
        Expect.due("run", x.run(0), 22);
        x.cut(23);
        Expect.due("add with 23", Expect.addTo(x, Steps.exit()), 23);
    }

    private static void putMakesAllOfAStep() {
        Expect.sentence("STEP i becomes that");
        // R3 is 3, R4 is 4; one part after another of step 2 becomes another.
        CheckedMachine x = Expect.machine(Steps.set(3, 3), Steps.set(4, 4), Steps.plus(3, 10), Steps.copy(0, 3),
                Steps.minus(0, 4), Steps.exit());
        x.check();
        Expect.due("as it was", x.run(0), 9);
        becomes(x, "n", 19, Steps.plus(3, 20));
        becomes(x, "d", -21, Steps.plus(4, 20));
        becomes(x, "op and s", 3, Steps.plusReg(3, 4));
        becomes(x, "s", 2, Steps.plusReg(3, 3));
        becomes(x, "op and target", -1, Steps.go(3));
        becomes(x, "op and n", -19, Steps.set(4, 22));
        Expect.putIn(x, 0, Steps.set(0, 6));
        Expect.putIn(x, 2, Steps.go(5));
        Expect.due("another target, looked at", x.check(), 4);
        Expect.due("another target, run", x.run(0), 6);
    }

    private static void becomes(CheckedMachine x, String what, long want, int[] step) {
        Expect.putIn(x, 2, step);
        x.check();
        Expect.due(what, x.run(0), want);
    }

    private static void putChangesOneStep() {
        Expect.sentence("STEP i becomes that (and no other)");
        CheckedMachine x = new CheckedMachine();
        Expect.addTo(x, Steps.set(0, 1));
        for (int i = 1; i < 23; i++) {
            Expect.addTo(x, Steps.plus(0, 1 << i));
        }
        Expect.addTo(x, Steps.exit());
        for (int i = 0; i < 24; i += 23) {
            Expect.putIn(x, i, i == 0 ? Steps.set(0, 0) : Steps.exit());
        }
        for (int i = 1; i < 23; i += 7) {
            Expect.putIn(x, i, Steps.plus(0, 0));
        }
        Expect.due("steps", x.count(0), 24);
        x.check();
        Expect.due("run", x.run(0), (1 << 23) - 1 - 1 - (1 << 1) - (1 << 8) - (1 << 15) - (1 << 22));
    }

    private static void putWhereNoStepIs() {
        Expect.sentence("there's no such STEP: NoSuchElementException.");
        CheckedMachine x = Expect.machine(Steps.set(0, 1), Steps.exit(), Steps.exit());
        x.cut(2);
        x.check();
        for (int i : new int[] {-1, 2, 3, 23, 24, INT_MIN, INT_MAX}) {
            Expect.thrown("put at " + i, () -> Expect.putIn(x, i, Steps.set(0, 2)), Expect.NO_ELEMENT);
        }
        Expect.due("steps", x.count(0), 2);
        Expect.due("checked", x.count(1), 1);
        Expect.due("run", x.run(0), 1);
        CheckedMachine y = full();
        Expect.thrown("put at 24 of 24", () -> Expect.putIn(y, 24, Steps.exit()), Expect.NO_ELEMENT);
        Expect.thrown("put at 23 of 24", () -> Expect.putIn(y, 23, Steps.exit()), Expect.NOTHING);
    }

    private static void putOfWhatIsNoStep() {
        Expect.sentence("void put(int i, int op, int d, int s, int number, int target) throws "
                + "IllegalArgumentException");
        CheckedMachine x = Expect.machine(Steps.set(0, 1), Steps.exit());
        for (int i : new int[] {-1, 0, 1, 2, INT_MAX}) {
            Expect.thrown("op, at " + i, () -> x.put(i, 18, 0, 0, 0, 0), Expect.ILLEGAL_ARGUMENT);
            Expect.thrown("d, at " + i, () -> x.put(i, 0, 6, 0, 0, 0), Expect.ILLEGAL_ARGUMENT);
            Expect.thrown("s, at " + i, () -> x.put(i, 0, 0, -1, 0, 0), Expect.ILLEGAL_ARGUMENT);
            Expect.thrown("target, at " + i, () -> x.put(i, 0, 0, 0, 0, 24), Expect.ILLEGAL_ARGUMENT);
        }
    }

    private static void cutKeepsTheFirst() {
        Expect.sentence("The program has the first n STEPS");
        for (int n = 0; n <= 24; n++) {
            CheckedMachine x = full();
            x.cut(n);
            Expect.due("cut(" + n + "), steps", x.count(0), n);
            if (n > 0 && n < 24) {
                Expect.addTo(x, Steps.exit());
                x.check();
                Expect.due("cut(" + n + "), run", x.run(0), n - 1);
            }
        }
        CheckedMachine y = full();
        y.cut(0);
        Expect.thrown("cut(0), check", () -> y.check(), Expect.ILLEGAL_ARGUMENT);
        y.cut(0);
        Expect.due("cut(0) twice, steps", y.count(0), 0);
    }

    private static void cutRefusesOthers() {
        Expect.sentence("(0 .. as many as it has)");
        CheckedMachine x = Expect.machine(Steps.set(0, 4), Steps.exit());
        x.check();
        for (int n : new int[] {-1, 3, 24, 25, INT_MIN, INT_MAX}) {
            Expect.thrown("cut(" + n + ")", () -> x.cut(n), Expect.ILLEGAL_ARGUMENT);
        }
        Expect.due("steps", x.count(0), 2);
        Expect.due("checked", x.count(1), 1);
        Expect.due("run", x.run(0), 4);
        CheckedMachine y = full();
        Expect.thrown("cut(25) of 24", () -> y.cut(25), Expect.ILLEGAL_ARGUMENT);
        Expect.thrown("cut(24) of 24", () -> y.cut(24), Expect.NOTHING);
    }
}
