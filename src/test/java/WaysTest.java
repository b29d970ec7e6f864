/** Promise 5: the ways of a program, their order, and what is too long. */
public final class WaysTest {
    public static void main(String[] args) {
        stepsLookedAt();
        theNextStepComesFirst();
        theLimit();
        theLimitBeforeARejection();
        Expect.end();
    }

    private static void stepsLookedAt() {
        Expect.due("no fork", Programs.forks(0).check(), 2);
        Expect.due("one fork", Programs.forks(1).check(), 5);
        // SET, 2 * (1 + 2 + .. + 32) on the ways, 64 exits
        Expect.due("six forks", Programs.forks(6).check(), 1 + 2 * 63 + 64);
        CheckedMachine x = Expect.checked("go", Steps.set(0, 1), Steps.go(3), Steps.set(0, 2), Steps.exit());
        Expect.due("go", x.count(4), 3);
    }

    private static void theNextStepComesFirst() {
        Expect.rejected("both ways wrong", 3, 1, 2, Steps.above(1, 0, 2), Steps.divide(1, 0), Steps.copy(0, 5));
        Expect.rejected("the target's way wrong", 2, 3, 4, Steps.above(1, 0, 3), Steps.set(0, 1), Steps.exit(),
                Steps.copy(0, 5));
        Expect.rejected("the later fork's target before the earlier one's", 3, 5, 5, Steps.above(1, 0, 4),
                Steps.above(1, -9, 5), Steps.set(0, 1), Steps.exit(), Steps.copy(0, 5), Steps.divide(1, 0));
        Expect.rejected("a way that can't be is not gone down, but its target is looked for", 1, 1, 2,
                Steps.set(0, 1), Steps.equal(0, 2, 7), Steps.exit());
    }

    private static void theLimit() {
        CheckedMachine just = Programs.costingAll(300);
        Expect.due("300 looked at", just.check(), 300);
        Expect.due("300 looked at, counted", just.count(4), 300);
        Expect.due("300 looked at, run", just.run(0), 1);
        CheckedMachine more = Programs.costingAll(301);
        Expect.thrown("301 to look at", () -> more.check(), Expect.UNSUPPORTED);
        Expect.due("301 to look at, looked at", more.count(4), 300);
        Expect.thrown("too long, run", () -> more.run(0), Expect.ILLEGAL_STATE);
        Expect.thrown("too long, outcome", () -> more.outcome(false), Expect.ILLEGAL_STATE);
    }

    private static void theLimitBeforeARejection() {
        ends("the 300th is wrong", Programs.costingBefore(299, Steps.copy(0, 5)), Expect.ILLEGAL_ARGUMENT);
        ends("the 301st would be wrong", Programs.costingBefore(300, Steps.copy(0, 5)), Expect.UNSUPPORTED);
        ends("the 300th is not there", Programs.costingBefore(298, Steps.set(0, 1)), Expect.ILLEGAL_ARGUMENT);
        ends("the 301st would not be there", Programs.costingBefore(299, Steps.set(0, 1)), Expect.UNSUPPORTED);
    }

    private static void ends(String what, CheckedMachine x, String want) {
        Expect.thrown(what, () -> x.check(), want);
        Expect.due(what + ", looked at", x.count(4), 300);
        Expect.due(what + ", is a rejection", x.count(2) == 0 ? 0 : 1, want.equals(Expect.UNSUPPORTED) ? 0 : 1);
    }
}
