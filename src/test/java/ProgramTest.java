/** Promises 1 to 4: a new object, add, put, cut. */
public final class ProgramTest {
    public static void main(String[] args) {
        aNewObject();
        addAnswersNumbers();
        addRefusesWrongSteps();
        addRefusesTheTwentyFifth();
        putReplaces();
        putRefuses();
        cutKeepsTheFirst();
        cutRefuses();
        changesEndBeingChecked();
        refusalsChangeNothing();
        Expect.end();
    }

    private static void aNewObject() {
        CheckedMachine x = new CheckedMachine();
        for (int what = 0; what <= 6; what++) {
            Expect.due("new, count " + what, x.count(what), 0);
        }
        for (int r = 0; r < 6; r++) {
            Expect.due("new, row " + r, x.row(r, 0) | x.row(r, 1), 0);
        }
        Expect.thrown("new, run", () -> x.run(0), Expect.ILLEGAL_STATE);
        Expect.thrown("new, outcome", () -> x.outcome(false), Expect.ILLEGAL_STATE);
        Expect.thrown("new, check", () -> x.check(), Expect.ILLEGAL_ARGUMENT);
    }

    private static void addAnswersNumbers() {
        CheckedMachine x = new CheckedMachine();
        for (int i = 0; i < 18; i++) {
            Expect.due("add", x.add(i, i % 6, 5 - i % 6, -i, i), i);
            Expect.due("steps", x.count(0), i + 1);
        }
        Expect.due("add edges", x.add(17, 5, 5, Integer.MIN_VALUE, 23), 18);
        Expect.due("add edges", x.add(0, 0, 0, Integer.MAX_VALUE, 0), 19);
    }

    private static void addRefusesWrongSteps() {
        CheckedMachine x = new CheckedMachine();
        int[][] wrong = {
            {-1, 0, 0, 0, 0}, {18, 0, 0, 0, 0}, {0, -1, 0, 0, 0}, {0, 6, 0, 0, 0}, {0, 0, -1, 0, 0},
            {0, 0, 6, 0, 0}, {0, 0, 0, 0, -1}, {0, 0, 0, 0, 24}, {Integer.MIN_VALUE, 0, 0, 0, 0},
            {Integer.MAX_VALUE, 0, 0, 0, 0}, {0, Integer.MAX_VALUE, 0, 0, 0}, {0, 0, Integer.MIN_VALUE, 0, 0}};
        for (int[] step : wrong) {
            Expect.thrown("add of a wrong step", () -> Expect.addTo(x, step), Expect.ILLEGAL_ARGUMENT);
            Expect.thrown("put of a wrong step where none is", () -> Expect.putIn(x, 0, step),
                    Expect.ILLEGAL_ARGUMENT);
        }
        Expect.due("steps after refusals", x.count(0), 0);
    }

    private static void addRefusesTheTwentyFifth() {
        CheckedMachine x = new CheckedMachine();
        for (int i = 0; i < 24; i++) {
            Expect.due("add", Expect.addTo(x, Steps.set(0, i)), i);
        }
        Expect.thrown("a 25th step", () -> Expect.addTo(x, Steps.set(0, 0)), Expect.ILLEGAL_STATE);
        Expect.thrown("a wrong 25th step", () -> x.add(18, 0, 0, 0, 0), Expect.ILLEGAL_ARGUMENT);
        Expect.due("steps", x.count(0), 24);
        x.cut(23);
        Expect.due("add after cut", Expect.addTo(x, Steps.exit()), 23);
        Expect.due("24 steps, check", x.check(), 24);
        Expect.due("24 steps, run", x.run(0), 22);
        Expect.due("24 steps, steps run", x.count(5), 24);
    }

    private static void putReplaces() {
        CheckedMachine x = Expect.machine(Steps.set(0, 1), Steps.set(0, 2), Steps.exit());
        Expect.putIn(x, 1, Steps.plus(0, 5));
        x.check();
        Expect.due("put, run", x.run(0), 6);
        Expect.putIn(x, 0, Steps.set(0, -1));
        Expect.putIn(x, 2, Steps.exit());
        x.check();
        Expect.due("put at both ends, run", x.run(0), 4);
        Expect.due("put, steps", x.count(0), 3);
    }

    private static void putRefuses() {
        CheckedMachine x = Expect.machine(Steps.set(0, 1), Steps.exit());
        for (int i : new int[] {-1, 2, 24, Integer.MIN_VALUE, Integer.MAX_VALUE}) {
            Expect.thrown("put at " + i, () -> Expect.putIn(x, i, Steps.exit()), Expect.NO_ELEMENT);
            Expect.thrown("put of wrong at " + i, () -> x.put(i, 0, 0, 6, 0, 0), Expect.ILLEGAL_ARGUMENT);
        }
        x.cut(1);
        Expect.thrown("put behind the cut", () -> Expect.putIn(x, 1, Steps.exit()), Expect.NO_ELEMENT);
    }

    private static void cutKeepsTheFirst() {
        CheckedMachine x = Expect.machine(Steps.set(0, 1), Steps.plus(0, 1), Steps.plus(0, 1), Steps.exit());
        x.cut(4);
        Expect.due("cut(4)", x.count(0), 4);
        x.cut(2);
        Expect.due("cut(2)", x.count(0), 2);
        Expect.due("add after cut(2)", Expect.addTo(x, Steps.exit()), 2);
        x.check();
        Expect.due("run after cut(2)", x.run(0), 2);
        x.cut(0);
        Expect.due("cut(0)", x.count(0), 0);
    }

    private static void cutRefuses() {
        CheckedMachine x = Expect.machine(Steps.set(0, 1), Steps.exit());
        for (int n : new int[] {-1, 3, Integer.MIN_VALUE, Integer.MAX_VALUE}) {
            Expect.thrown("cut(" + n + ")", () -> x.cut(n), Expect.ILLEGAL_ARGUMENT);
        }
        Expect.due("steps", x.count(0), 2);
    }

    private static void changesEndBeingChecked() {
        Expect.Call[] changes = new Expect.Call[3];
        CheckedMachine x = Expect.machine(Steps.set(0, 1), Steps.exit());
        changes[0] = () -> Expect.putIn(x, 0, Steps.set(0, 1));
        changes[1] = () -> x.cut(x.count(0));
        changes[2] = () -> Expect.addTo(x, Steps.exit());
        for (Expect.Call change : changes) {
            x.check();
            Expect.due("checked", x.count(1), 1);
            change.make();
            Expect.due("checked after a change", x.count(1), 0);
            Expect.thrown("run after a change", () -> x.run(0), Expect.ILLEGAL_STATE);
            Expect.thrown("outcome after a change", () -> x.outcome(true), Expect.ILLEGAL_STATE);
        }
    }

    private static void refusalsChangeNothing() {
        CheckedMachine x = Expect.machine(Steps.set(0, 1), Steps.exit());
        x.check();
        Expect.thrownBy(() -> x.add(18, 0, 0, 0, 0));
        Expect.thrownBy(() -> x.put(0, 18, 0, 0, 0, 0));
        Expect.thrownBy(() -> x.put(2, 0, 0, 0, 0, 0));
        Expect.thrownBy(() -> x.cut(3));
        Expect.due("checked after refusals", x.count(1), 1);
        Expect.due("run after refusals", x.run(0), 1);
    }
}
