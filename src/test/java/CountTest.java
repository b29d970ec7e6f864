/** Promises 10 and 11: count, and what it counts of a check that was rejected or too long. */
public final class CountTest {
    public static void main(String[] args) {
        otherNumbersAnswerMinusOne();
        theLatestRejectionStays();
        tooLongIsNoRejection();
        nothingIsLeftOpen();
        runsAreCounted();
        countGoesRound();
        Expect.end();
    }

    private static void otherNumbersAnswerMinusOne() {
        CheckedMachine x = new CheckedMachine();
        for (int what : new int[] {-1, 7, 8, Integer.MIN_VALUE, Integer.MAX_VALUE}) {
            Expect.due("count(" + what + ")", x.count(what), -1);
        }
    }

    private static void theLatestRejectionStays() {
        CheckedMachine x = Expect.machine(Steps.set(0, 1), Steps.divide(0, 0), Steps.exit());
        Expect.thrown("check", () -> x.check(), Expect.ILLEGAL_ARGUMENT);
        Expect.putIn(x, 1, Steps.divide(0, 1));
        Expect.due("reason after put", x.count(2), 3);
        Expect.due("check", x.check(), 3);
        Expect.due("reason", x.count(2), 3);
        Expect.due("its step", x.count(3), 1);
        Expect.due("looked at", x.count(4), 3);
        x.cut(2);
        Expect.thrown("check without exit", () -> x.check(), Expect.ILLEGAL_ARGUMENT);
        Expect.due("reason", x.count(2), 1);
        Expect.due("place where a step should be", x.count(3), 2);
        Expect.due("that place is counted", x.count(4), 3);
    }

    private static void tooLongIsNoRejection() {
        CheckedMachine x = Programs.forks(7);
        Expect.thrown("too long", () -> x.check(), Expect.UNSUPPORTED);
        Expect.due("reason", x.count(2), 0);
        Expect.due("looked at", x.count(4), 300);
        Expect.due("checked", x.count(1), 0);
    }

    private static void nothingIsLeftOpen() {
        // Rejected while the target's way of step 0 waits; it must not be gone down by the next check.
        CheckedMachine x = Expect.machine(Steps.above(1, 0, 2), Steps.divide(1, 0), Steps.set(0, 1), Steps.exit());
        Expect.thrown("rejected", () -> x.check(), Expect.ILLEGAL_ARGUMENT);
        Expect.putIn(x, 0, Steps.set(0, 7));
        Expect.putIn(x, 1, Steps.exit());
        Expect.due("check after a rejection", x.check(), 2);
        Expect.due("outcome after a rejection", x.outcome(false), 7);
        CheckedMachine y = Expect.machine(Steps.set(0, 1), Steps.divide(0, 0));
        Expect.thrown("rejected", () -> y.check(), Expect.ILLEGAL_ARGUMENT);
        Expect.putIn(y, 0, Steps.exit());
        Expect.thrown("R0 is empty again", () -> y.check(), Expect.ILLEGAL_ARGUMENT);
        Expect.due("R0 is empty again, reason", y.count(2), 2);
    }

    private static void runsAreCounted() {
        CheckedMachine x = Expect.checked("steps run", Steps.set(0, 1), Steps.above(1, 0, 3), Steps.set(0, 2),
                Steps.exit());
        Expect.due("no run yet", x.count(5), 0);
        x.run(0);
        Expect.due("steps run", x.count(5), 4);
        x.run(1);
        Expect.due("steps run with a jump", x.count(5), 3);
        x.cut(0);
        Expect.thrownBy(() -> x.run(0));
        Expect.due("steps run, after a run that was refused", x.count(5), 3);
    }

    private static void countGoesRound() {
        CheckedMachine x = Expect.checked("COUNT", Steps.countCalls(), Steps.countCalls(), Steps.exit());
        for (int i = 0; i < 120; i++) {
            Expect.due("COUNT", x.run(0), (2 * i + 1) % 100);
        }
        Expect.due("COUNT's calls", x.count(6), 240);
        x.cut(0);
        Expect.due("COUNT's calls after cut", x.count(6), 240);
    }
}
