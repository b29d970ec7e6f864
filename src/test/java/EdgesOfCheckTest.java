/** Ways, outcomes, the limit, being checked, and the edges of promises 5 and 9 to 11, sentence by sentence. */
public final class EdgesOfCheckTest {
    private static final long MIN = Expect.MIN;
    private static final long MAX = Expect.MAX;
    private static final int[] WRONG = Steps.copy(0, 5);

    public static void main(String[] args) {
        everyWayInOrder();
        theFirstStepInThisOrder();
        outcomesGrow();
        outcomesAtFirst();
        tooLong();
        tooLongBeforeReasons();
        checkedTillAChange();
        refusedChangesAreNotDone();
        checkedAnew();
        checkThrows();
        checkAnswers();
        outcomeNeedsACheckedProgram();
        countSteps();
        countChecked();
        countReason();
        countItsStep();
        countLookedAt();
        countStepsRun();
        countCallsOfCount();
        countElse();
        countTheRejectedStepToo();
        objectsForManyCalls();
        Expect.end();
    }

    /** A fork, and another one on each of its ways; the four ends begin at steps 4, 6, 9 and 11. */
    private static CheckedMachine tree() {
        return Expect.machine(Steps.copy(3, 1), Steps.set(0, 1), Steps.equal(1, 0, 8), Steps.equal(3, 1, 6),
                Steps.set(4, 1), Steps.exit(), Steps.set(4, 2), Steps.exit(), Steps.equal(3, 1, 11), Steps.set(4, 3),
                Steps.exit(), Steps.set(4, 4), Steps.exit());
    }

    private static final int[] ENDS = {4, 6, 9, 11};
    // How many steps have been looked at when that end's first step has been.
    private static final int[] LOOKED = {5, 7, 10, 12};

    private static void everyWayInOrder() {
        Expect.sentence("goes down every WAY; where there are two, first that of the next STEP, then that of "
                + "the TARGET");
        Expect.due("all ways", tree().check(), 13);
        for (int i = 0; i < 4; i++) {
            CheckedMachine x = tree();
            Expect.putIn(x, ENDS[i], WRONG);
            rejectedAt("end " + i, x, ENDS[i], LOOKED[i]);
        }
        // SET, then ways that fork n times: 2 * (1 + 2 + .. + 2^(n - 1)) steps and 2^n exits
        for (int n = 0; n <= 6; n++) {
            Expect.due(n + " forks", Programs.forks(n).check(), 1 + 2 * ((1 << n) - 1) + (1 << n));
        }
    }

    private static void rejectedAt(String what, CheckedMachine x, int at, int looked) {
        Expect.thrown(what, () -> x.check(), Expect.ILLEGAL_ARGUMENT);
        Expect.due(what + ", step", x.count(3), at);
        Expect.due(what + ", looked at", x.count(4), looked);
    }

    private static void theFirstStepInThisOrder() {
        Expect.sentence("It REJECTS a program, with a REASON, at the first STEP, in this order, that isn't as follows");
        CheckedMachine x = tree();
        for (int end : ENDS) {
            Expect.putIn(x, end, WRONG);
        }
        for (int i = 0; i < 4; i++) {
            rejectedAt("from end " + i + " on", x, ENDS[i], LOOKED[i]);
            Expect.putIn(x, ENDS[i], Steps.set(4, i));
        }
        Expect.due("none wrong", x.check(), 13);
        Expect.rejected("a lesser reason comes later", 3, 0, 1, Steps.shift(1, 64), Steps.copy(0, 5));
        Expect.rejected("a step of a lower number comes later", 2, 4, 4, Steps.set(0, 1), Steps.above(1, 0, 3),
                Steps.go(4), WRONG, WRONG);
        Expect.checked("a wrong step that no way comes to", Steps.set(0, 1), Steps.go(3), WRONG, Steps.exit(), WRONG);
        Expect.checked("a wrong step on a way that isn't", Steps.set(0, 1), Steps.equal(0, 2, 3), Steps.exit(), WRONG);
    }

    /** The way of the next step answers first, that of the target second. */
    private static int[][] twoExits(int[][] first, int[][] second) {
        return Steps.join(Steps.list(Steps.above(1, 0, first.length + 2)), first, Steps.list(Steps.exit()), second,
                Steps.list(Steps.exit()));
    }

    private static void outcomesGrow() {
        Expect.sentence("EXIT ends the WAY: OUTCOMES grow to hold R0's RANGE");
        int[][] low = Steps.list(Steps.set(0, -500));
        int[][] high = Steps.list(Steps.set(0, 900));
        Expect.outcomes("low, high", -500, 900, twoExits(low, high));
        Expect.outcomes("high, low", -500, 900, twoExits(high, low));
        Expect.outcomes("high, high", 900, 900, twoExits(high, high));
        Expect.outcomes("least, greatest", MIN, MAX, twoExits(Steps.least(0), Steps.greatest(0)));
        Expect.outcomes("greatest, least", MIN, MAX, twoExits(Steps.greatest(0), Steps.least(0)));
        int[][] wide = Steps.range(4, -9, 9);
        int[][] copy = Steps.list(Steps.copy(0, 4));
        int[][] five = Steps.list(Steps.set(0, 5));
        Expect.outcomes("one within the other", -9, 9, forkedAfter(wide, copy, five));
        Expect.outcomes("the other within the one", -9, 9, forkedAfter(wide, five, copy));
        Expect.checked("what stands behind an exit", Steps.set(0, 1), Steps.exit(), WRONG);
    }

    /** Steps, then a fork on R3, which may be anything, with the two ends. */
    private static int[][] forkedAfter(int[][] before, int[][] here, int[][] there) {
        int target = before.length + 2 + here.length + 1;
        return Steps.join(before, Steps.list(Steps.copy(3, 1), Steps.above(3, 0, target)), here,
                Steps.list(Steps.exit()), there, Steps.list(Steps.exit()));
    }

    private static void outcomesAtFirst() {
        Expect.sentence("(at first that of the first EXIT)");
        Expect.outcomes("above 0", 7, 8, twoExits(Steps.list(Steps.set(0, 7)), Steps.list(Steps.set(0, 8))));
        Expect.outcomes("below 0", -8, -7, twoExits(Steps.list(Steps.set(0, -7)), Steps.list(Steps.set(0, -8))));
        Expect.outcomes("greatest", MAX, MAX, Steps.join(Steps.greatest(0), Steps.list(Steps.exit())));
        Expect.outcomes("least", MIN, MIN, Steps.join(Steps.least(0), Steps.list(Steps.exit())));
        CheckedMachine x = Expect.machine(Steps.set(0, 900), Steps.exit());
        x.check();
        Expect.putIn(x, 0, Steps.set(0, 3));
        x.check();
        Expect.due("another check, greatest", x.outcome(true), 3);
        Expect.putIn(x, 0, Steps.set(0, 30));
        x.check();
        Expect.due("a third check, least", x.outcome(false), 30);
        // Ways that had ended before a rejection don't count for the next check.
        CheckedMachine y = Expect.machine(Steps.above(1, 0, 3), Steps.set(0, -70), Steps.exit(), WRONG, Steps.exit());
        Expect.thrown("rejected", () -> y.check(), Expect.ILLEGAL_ARGUMENT);
        Expect.putIn(y, 1, Steps.set(0, 4));
        Expect.putIn(y, 3, Steps.set(0, 5));
        y.check();
        Expect.due("after a rejection, least", y.outcome(false), 4);
    }

    private static void ends(String what, CheckedMachine x, String want, int looked) {
        Expect.thrown(what, () -> x.check(), want);
        Expect.due(what + ", looked at", x.count(4), looked);
        Expect.due(what + ", checked", x.count(1), want.equals(Expect.NOTHING) ? 1 : 0);
        Expect.due(what + ", a reason", x.count(2) > 0 ? 1 : 0, want.equals(Expect.ILLEGAL_ARGUMENT) ? 1 : 0);
    }

    private static void tooLong() {
        Expect.sentence("After 300 STEPS looked at, one more to look at: TOO LONG.");
        ends("299", Programs.costingAll(299), Expect.NOTHING, 299);
        ends("300", Programs.costingAll(300), Expect.NOTHING, 300);
        ends("301", Programs.costingAll(301), Expect.UNSUPPORTED, 300);
        ends("302", Programs.costingAll(302), Expect.UNSUPPORTED, 300);
        ends("the 300th ends the last way", Programs.costingBefore(299, Steps.exit()), Expect.NOTHING, 300);
        ends("the 300th ends a way, one is left", Programs.costingBefore(300, Steps.exit()), Expect.UNSUPPORTED, 300);
        ends("383", Programs.forks(7), Expect.UNSUPPORTED, 300);
        CheckedMachine x = Programs.forks(7);
        for (int i = 0; i < 3; i++) {
            ends("383, again", x, Expect.UNSUPPORTED, 300);
        }
        x.cut(13);
        Expect.addTo(x, Steps.exit());
        Expect.due("six of its forks", x.check(), 191);
    }

    private static void tooLongBeforeReasons() {
        Expect.sentence("After 300 STEPS looked at, one more to look at (whatever it is): TOO LONG.");
        ends("the 299th is wrong", Programs.costingBefore(298, WRONG), Expect.ILLEGAL_ARGUMENT, 299);
        ends("the 300th is wrong", Programs.costingBefore(299, WRONG), Expect.ILLEGAL_ARGUMENT, 300);
        ends("the 301st would be wrong", Programs.costingBefore(300, WRONG), Expect.UNSUPPORTED, 300);
        ends("the 300th isn't there", Programs.costingBefore(298, Steps.set(0, 1)), Expect.ILLEGAL_ARGUMENT, 300);
        ends("the 301st isn't there", Programs.costingBefore(299, Steps.set(0, 1)), Expect.UNSUPPORTED, 300);
    }

    private static void checkedTillAChange() {
        Expect.sentence("CHECKED, till add, put or cut is done (whatever it changes)");
        CheckedMachine x = Expect.machine(Steps.set(0, 1), Steps.exit());
        changes("put of the same", x, () -> Expect.putIn(x, 0, Steps.set(0, 1)));
        changes("cut of nothing", x, () -> x.cut(2));
        changes("add behind an exit", x, () -> Expect.addTo(x, Steps.exit()));
        changes("put of a step that no way comes to", x, () -> Expect.putIn(x, 2, Steps.go(0)));
        changes("cut of a step that no way comes to", x, () -> x.cut(2));
        x.check();
        x.cut(0);
        Expect.due("checked after cut(0)", x.count(1), 0);
    }

    private static void changes(String what, CheckedMachine x, Expect.Call change) {
        x.check();
        Expect.due(what + ", checked before", x.count(1), 1);
        Expect.thrown(what, change, Expect.NOTHING);
        Expect.due(what + ", checked after", x.count(1), 0);
        Expect.thrown(what + ", run", () -> x.run(0), Expect.ILLEGAL_STATE);
        Expect.thrown(what + ", outcome", () -> x.outcome(true), Expect.ILLEGAL_STATE);
        x.check();
        Expect.due(what + ", run after another check", x.run(0), 1);
    }

    private static void refusedChangesAreNotDone() {
        Expect.sentence("CHECKED, till add, put or cut is done (one that throws isn't)");
        CheckedMachine x = Expect.machine(Steps.set(0, 1), Steps.exit());
        x.check();
        stays("add", x, () -> x.add(18, 0, 0, 0, 0), Expect.ILLEGAL_ARGUMENT);
        stays("put of what is no step", x, () -> x.put(0, 0, 0, 0, 0, 24), Expect.ILLEGAL_ARGUMENT);
        stays("put where no step is", x, () -> x.put(2, 0, 0, 0, 0, 0), Expect.NO_ELEMENT);
        stays("cut(3)", x, () -> x.cut(3), Expect.ILLEGAL_ARGUMENT);
        stays("cut(-1)", x, () -> x.cut(-1), Expect.ILLEGAL_ARGUMENT);
        x.cut(1);
        while (x.count(0) < 24) {
            Expect.addTo(x, Steps.exit());
        }
        x.check();
        stays("add to 24", x, () -> x.add(0, 0, 0, 0, 0), Expect.ILLEGAL_STATE);
    }

    private static void stays(String what, CheckedMachine x, Expect.Call refused, String want) {
        Expect.thrown(what, refused, want);
        Expect.due(what + ", checked", x.count(1), 1);
        Expect.due(what + ", run", x.run(0), 1);
        Expect.due(what + ", outcome", x.outcome(false), 1);
    }

    private static void checkedAnew() {
        Expect.sentence("or it is checked anew");
        CheckedMachine x = Expect.machine(Steps.copy(0, 1), Steps.and(0, 7), Steps.exit());
        for (int i = 0; i < 3; i++) {
            Expect.due("looked at", x.check(), 3);
            Expect.due("checked", x.count(1), 1);
            Expect.due("least", x.outcome(false), 0);
            Expect.due("greatest", x.outcome(true), 7);
            Expect.due("run", x.run(13), 5);
        }
        // A way that waited when a check was ended must not be gone down by the next one.
        CheckedMachine y = Expect.machine(Steps.above(1, 0, 2), WRONG, Steps.set(0, 1), Steps.exit());
        Expect.thrown("rejected with a way left", () -> y.check(), Expect.ILLEGAL_ARGUMENT);
        Expect.putIn(y, 0, Steps.set(0, 7));
        Expect.putIn(y, 1, Steps.exit());
        Expect.due("after a rejection, looked at", y.check(), 2);
        Expect.due("after a rejection, least", y.outcome(false), 7);
        CheckedMachine z = Programs.forks(7);
        Expect.thrown("too long with ways left", () -> z.check(), Expect.UNSUPPORTED);
        Expect.putIn(z, 1, Steps.exit());
        Expect.due("after one too long, looked at", z.check(), 2);
    }

    private static void checkThrows() {
        Expect.sentence("REJECTED: IllegalArgumentException; TOO LONG: UnsupportedOperationException.");
        CheckedMachine x = new CheckedMachine();
        Expect.thrown("rejected", () -> x.check(), Expect.ILLEGAL_ARGUMENT);
        Expect.thrown("rejected again", () -> x.check(), Expect.ILLEGAL_ARGUMENT);
        CheckedMachine y = Programs.forks(7);
        Expect.thrown("too long", () -> y.check(), Expect.UNSUPPORTED);
        Expect.thrown("too long again", () -> y.check(), Expect.UNSUPPORTED);
        y.cut(0);
        Expect.thrown("rejected after too long", () -> y.check(), Expect.ILLEGAL_ARGUMENT);
        Expect.addTo(y, Steps.set(0, 1));
        Expect.addTo(y, Steps.exit());
        Expect.thrown("neither", () -> y.check(), Expect.NOTHING);
    }

    private static void checkAnswers() {
        Expect.sentence("Answers how many STEPS were looked at.");
        Expect.due("two", Expect.machine(Steps.set(0, 1), Steps.exit()).check(), 2);
        Expect.due("not those behind", Expect.machine(Steps.set(0, 1), Steps.exit(), WRONG).check(), 2);
        Expect.due("not those gone over", Expect.machine(Steps.set(0, 1), Steps.go(3), WRONG, Steps.exit()).check(), 3);
        Expect.due("one on two ways counts twice", Expect.machine(Steps.set(0, 1), Steps.above(1, 0, 2),
                Steps.exit()).check(), 4);
        Expect.due("300", Programs.costingAll(300).check(), 300);
    }

    private static void noOutcome(String what, CheckedMachine x) {
        Expect.thrown(what + ", least", () -> x.outcome(false), Expect.ILLEGAL_STATE);
        Expect.thrown(what + ", greatest", () -> x.outcome(true), Expect.ILLEGAL_STATE);
    }

    private static void outcomeNeedsACheckedProgram() {
        Expect.sentence("The least (high false) or greatest OUTCOME of the CHECKED program; it isn't: "
                + "IllegalStateException.");
        CheckedMachine x = new CheckedMachine();
        noOutcome("no steps", x);
        Expect.addTo(x, Steps.copy(0, 1));
        Expect.addTo(x, Steps.and(0, 6));
        Expect.addTo(x, Steps.plus(0, -2));
        Expect.addTo(x, Steps.exit());
        noOutcome("not yet checked", x);
        x.check();
        Expect.due("least", x.outcome(false), -2);
        Expect.due("greatest", x.outcome(true), 4);
        x.run(1);
        Expect.due("least, not what a run answered", x.outcome(false), -2);
        x.cut(3);
        noOutcome("after cut", x);
        Expect.thrown("rejected", () -> x.check(), Expect.ILLEGAL_ARGUMENT);
        noOutcome("rejected", x);
        CheckedMachine y = Programs.forks(7);
        Expect.thrown("too long", () -> y.check(), Expect.UNSUPPORTED);
        noOutcome("too long", y);
    }

    private static void countSteps() {
        Expect.sentence("STEPS (0)");
        CheckedMachine x = new CheckedMachine();
        Expect.due("none", x.count(0), 0);
        for (int i = 1; i <= 24; i++) {
            Expect.addTo(x, Steps.exit());
            Expect.due("added", x.count(0), i);
        }
        Expect.putIn(x, 3, Steps.set(0, 1));
        Expect.due("after put", x.count(0), 24);
        x.cut(5);
        Expect.due("after cut", x.count(0), 5);
        Expect.thrown("rejected", () -> x.check(), Expect.ILLEGAL_ARGUMENT);
        Expect.due("after check", x.count(0), 5);
    }

    private static void countChecked() {
        Expect.sentence("1 if CHECKED, else 0 (1)");
        CheckedMachine x = Expect.machine(Steps.set(0, 1), Steps.exit());
        Expect.due("not yet", x.count(1), 0);
        x.check();
        Expect.due("checked", x.count(1), 1);
        x.run(0);
        Expect.due("run", x.count(1), 1);
        x.cut(1);
        Expect.due("cut", x.count(1), 0);
        Expect.thrown("rejected", () -> x.check(), Expect.ILLEGAL_ARGUMENT);
        Expect.due("rejected", x.count(1), 0);
    }

    private static void countReason() {
        Expect.sentence("the REASON of the latest REJECTION, 0 if there was none (2)");
        CheckedMachine x = Expect.machine(Steps.set(0, 1), Steps.exit());
        Expect.due("none yet", x.count(2), 0);
        x.check();
        Expect.due("none, but a check", x.count(2), 0);
        Expect.putIn(x, 1, Steps.divide(0, 0));
        Expect.due("not yet checked", x.count(2), 0);
        Expect.thrown("rejected", () -> x.check(), Expect.ILLEGAL_ARGUMENT);
        Expect.due("rejected", x.count(2), 3);
        Expect.putIn(x, 1, Steps.exit());
        Expect.due("after put", x.count(2), 3);
        x.check();
        Expect.due("after a check that went through", x.count(2), 3);
        x.run(0);
        x.cut(0);
        Expect.due("after run and cut", x.count(2), 3);
        Expect.thrown("rejected again", () -> x.check(), Expect.ILLEGAL_ARGUMENT);
        Expect.due("rejected again", x.count(2), 1);
        CheckedMachine y = Programs.forks(7);
        Expect.thrown("too long", () -> y.check(), Expect.UNSUPPORTED);
        Expect.due("too long is no rejection", y.count(2), 0);
        Expect.due("too long is no rejection, step", y.count(3), 0);
    }

    private static void countItsStep() {
        Expect.sentence("the number of its STEP, or where one should have been (3)");
        CheckedMachine x = Programs.forks(7);
        Expect.putIn(x, 9, Steps.divide(0, 0));
        Expect.thrown("rejected", () -> x.check(), Expect.ILLEGAL_ARGUMENT);
        Expect.due("step 9", x.count(3), 9);
        Expect.putIn(x, 9, Steps.copy(3, 1));
        Expect.thrown("too long", () -> x.check(), Expect.UNSUPPORTED);
        Expect.due("after one too long, reason", x.count(2), 3);
        Expect.due("after one too long, step", x.count(3), 9);
        x.cut(0);
        Expect.due("after cut", x.count(3), 9);
        Expect.thrown("no steps", () -> x.check(), Expect.ILLEGAL_ARGUMENT);
        Expect.due("no steps, place 0", x.count(3), 0);
        for (int i = 1; i <= 24; i++) {
            Expect.addTo(x, Steps.set(0, 1));
            Expect.thrown("no exit", () -> x.check(), Expect.ILLEGAL_ARGUMENT);
            Expect.due("no exit, place", x.count(3), i);
        }
    }

    private static void countLookedAt() {
        Expect.sentence("STEPS looked at by the latest check (4)");
        CheckedMachine x = Expect.machine(Steps.set(0, 1), Steps.exit());
        Expect.due("no check yet", x.count(4), 0);
        x.check();
        Expect.due("two", x.count(4), 2);
        Expect.addTo(x, Steps.exit());
        Expect.due("after add", x.count(4), 2);
        Expect.putIn(x, 0, Steps.exit());
        Expect.thrown("rejected", () -> x.check(), Expect.ILLEGAL_ARGUMENT);
        Expect.due("rejected", x.count(4), 1);
        Expect.putIn(x, 0, Steps.set(0, 1));
        x.check();
        x.run(0);
        x.cut(0);
        Expect.due("after run and cut", x.count(4), 2);
        CheckedMachine y = Programs.forks(7);
        Expect.thrown("too long", () -> y.check(), Expect.UNSUPPORTED);
        Expect.due("too long", y.count(4), 300);
    }

    private static void countStepsRun() {
        Expect.sentence("STEPS run by the latest run (5)");
        CheckedMachine x = Expect.machine(Steps.set(0, 1), Steps.above(1, 0, 3), Steps.set(0, 2), Steps.exit());
        Expect.due("no run yet", x.count(5), 0);
        x.check();
        Expect.due("a check is no run", x.count(5), 0);
        x.run(0);
        Expect.due("with the next step", x.count(5), 4);
        x.run(1);
        Expect.due("with the target", x.count(5), 3);
        x.check();
        x.cut(0);
        Expect.thrown("refused", () -> x.run(0), Expect.ILLEGAL_STATE);
        Expect.due("a refused run is none", x.count(5), 3);
    }

    private static void countCallsOfCount() {
        Expect.sentence("COUNT's calls (6)");
        CheckedMachine x = Expect.machine(Steps.countCalls(), Steps.exit());
        x.check();
        Expect.due("a check calls nothing", x.count(6), 0);
        for (int i = 1; i <= 101; i++) {
            x.run(0);
            Expect.due("calls, not modulo 100", x.count(6), i);
        }
        Expect.putIn(x, 0, Steps.set(1, 1));
        Expect.addTo(x, Steps.exit());
        Expect.putIn(x, 1, Steps.find());
        Expect.putIn(x, 2, Steps.set(0, 1));
        Expect.addTo(x, Steps.exit());
        x.check();
        x.run(0);
        Expect.due("FIND is no call of COUNT", x.count(6), 101);
    }

    private static void countElse() {
        Expect.sentence("else -1.");
        CheckedMachine x = Expect.machine(Steps.set(0, 1), Steps.exit());
        x.check();
        for (int what : new int[] {Integer.MIN_VALUE, -7, -2, -1, 7, 8, 256, Integer.MAX_VALUE}) {
            Expect.due("count(" + what + ")", x.count(what), -1);
        }
        for (int what = 0; what <= 6; what++) {
            Expect.due("count(" + what + ") is none", x.count(what) == -1 ? 1 : 0, 0);
        }
        Expect.due("still checked", x.count(1), 1);
    }

    private static void countTheRejectedStepToo() {
        Expect.sentence("count: 4 counts the STEP that was REJECTED too, or the place where one should have been.");
        Expect.rejected("no steps", 1, 0, 1);
        Expect.rejected("the first step", 2, 0, 1, Steps.exit());
        Expect.rejected("the second step", 3, 1, 2, Steps.set(0, 1), Steps.divide(0, 0), Steps.exit());
        Expect.rejected("the place behind the first", 1, 1, 2, Steps.set(0, 1));
        Expect.rejected("on the second way", 2, 3, 4, Steps.above(1, 0, 3), Steps.set(0, 1), Steps.exit(), WRONG);
        int[][] full = new int[24][];
        java.util.Arrays.fill(full, Steps.set(0, 1));
        Expect.rejected("the place behind 24", 1, 24, 25, full);
    }

    private static void objectsForManyCalls() {
        Expect.sentence("An object is used for at most 512 calls after it has been made");
        CheckedMachine x = Programs.costingAll(300);
        int calls = x.count(0) + 1;
        while (calls < 510) {
            Expect.due("check", x.check(), 300);
            Expect.due("run", x.run(calls), 1);
            calls += 2;
        }
        Expect.due("checked", x.count(1), 1);
        Expect.due("outcome", x.outcome(true), 1);
    }
}
