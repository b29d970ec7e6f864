import java.util.ArrayList;
import java.util.List;

/** Promise 5: the ways of a program, their order, and what is too long. */
public final class WaysTest {
    public static void main(String[] args) {
        stepsLookedAt();
        theNextStepComesFirst();
        theLimit();
        theLimitBeforeARejection();
        Expect.end();
    }

    /** After SET R0, n forks whose two ways both go to the next step, then EXIT. */
    static CheckedMachine forks(int n) {
        CheckedMachine x = Expect.machine(Steps.set(0, 1));
        for (int i = 0; i < n; i++) {
            Expect.addTo(x, Steps.copy(3, 1));
            Expect.addTo(x, Steps.above(3, -1, x.count(0) + 1));
        }
        Expect.addTo(x, Steps.exit());
        return x;
    }

    /** Steps from number first on, of which a check looks at just so many. */
    private static List<int[]> costing(int looked, int first) {
        List<int[]> steps = new ArrayList<>();
        for (int rest = looked; rest > 1;) {
            if (rest % 2 == 0 && rest > 2) {
                steps.add(Steps.copy(3, 1));
                steps.add(Steps.above(3, -1, first + steps.size() + 1));
                rest = (rest - 2) / 2;
            } else {
                steps.add(Steps.set(0, 1));
                rest--;
            }
        }
        steps.add(Steps.exit());
        return steps;
    }

    private static CheckedMachine costingAll(int looked) {
        CheckedMachine x = Expect.machine(Steps.set(0, 1));
        addAll(x, costing(looked - 1, 1));
        return x;
    }

    /** Forks; just so many steps are looked at before the target's way, which has the end. */
    private static CheckedMachine costingBefore(int looked, int[] end) {
        List<int[]> middle = costing(looked - 2, 2);
        CheckedMachine x = Expect.machine(Steps.set(0, 1), Steps.above(1, 0, 2 + middle.size()));
        addAll(x, middle);
        Expect.addTo(x, end);
        return x;
    }

    private static void addAll(CheckedMachine x, List<int[]> steps) {
        for (int[] step : steps) {
            Expect.addTo(x, step);
        }
    }

    private static void stepsLookedAt() {
        Expect.due("no fork", forks(0).check(), 2);
        Expect.due("one fork", forks(1).check(), 5);
        // SET, 2 * (1 + 2 + .. + 32) on the ways, 64 exits
        Expect.due("six forks", forks(6).check(), 1 + 2 * 63 + 64);
        CheckedMachine x = Expect.checked("go", Steps.set(0, 1), Steps.go(3), Steps.set(0, 2), Steps.exit());
        Expect.due("go", x.count(4), 3);
    }

    private static void theNextStepComesFirst() {
        Expect.rejected("both ways wrong", 3, 1, 2, Steps.above(1, 0, 2), Steps.divide(1, 0), Steps.copy(0, 5));
        Expect.rejected("the target's way wrong", 2, 3, 4, Steps.above(1, 0, 3), Steps.set(0, 1), Steps.exit(),
                Steps.copy(0, 5));
        Expect.rejected("the later fork's target before the earlier one's", 3, 5, 5, Steps.above(1, 0, 4),
                Steps.above(1, -9, 5), Steps.set(0, 1), Steps.exit(), Steps.copy(0, 5), Steps.divide(1, 0));
        Expect.rejected("a way that can't be is not gone down, but its target is looked for", 1, 1, 2,
                Steps.set(0, 1), Steps.equal(0, 2, 7), Steps.exit());
    }

    private static void theLimit() {
        CheckedMachine just = costingAll(300);
        Expect.due("300 looked at", just.check(), 300);
        Expect.due("300 looked at, counted", just.count(4), 300);
        Expect.due("300 looked at, run", just.run(0), 1);
        CheckedMachine more = costingAll(301);
        Expect.thrown("301 to look at", () -> more.check(), Expect.UNSUPPORTED);
        Expect.due("301 to look at, looked at", more.count(4), 300);
        Expect.thrown("too long, run", () -> more.run(0), Expect.ILLEGAL_STATE);
        Expect.thrown("too long, outcome", () -> more.outcome(false), Expect.ILLEGAL_STATE);
    }

    private static void theLimitBeforeARejection() {
        ends("the 300th is wrong", costingBefore(299, Steps.copy(0, 5)), Expect.ILLEGAL_ARGUMENT);
        ends("the 301st would be wrong", costingBefore(300, Steps.copy(0, 5)), Expect.UNSUPPORTED);
        ends("the 300th is not there", costingBefore(298, Steps.set(0, 1)), Expect.ILLEGAL_ARGUMENT);
        ends("the 301st would not be there", costingBefore(299, Steps.set(0, 1)), Expect.UNSUPPORTED);
    }

    private static void ends(String what, CheckedMachine x, String want) {
        Expect.thrown(what, () -> x.check(), want);
        Expect.due(what + ", looked at", x.count(4), 300);
        Expect.due(what + ", is a rejection", x.count(2) == 0 ? 0 : 1, want.equals(Expect.UNSUPPORTED) ? 0 : 1);
    }
}
