/** Counts and prints answers that are not as due; a test ends with exit code 1 if there was one. */
final class Expect {
    static final long MIN = Long.MIN_VALUE;
    static final long MAX = Long.MAX_VALUE;
    static final String NOTHING = "nothing";
    static final String ILLEGAL_ARGUMENT = "IllegalArgumentException";
    static final String ILLEGAL_STATE = "IllegalStateException";
    static final String NO_ELEMENT = "NoSuchElementException";
    static final String UNSUPPORTED = "UnsupportedOperationException";

    private static int wrong = 0;
    private static String sentence = "";
    private static boolean tested = true;

    private Expect() {
    }

    interface Call {
        void make();
    }

    /**
     * Says by which words of the document the answers that follow are due; what is added to them stands in
     * brackets or last.
     */
    static void sentence(String words) {
        noticeUntested();
        sentence = "\"" + words + "\": ";
        tested = false;
    }

    private static void noticeUntested() {
        if (!tested) {
            wrong++;
            System.out.println(sentence + "no answer was looked at");
        }
    }

    static void due(String what, long got, long want) {
        due(what, Long.toString(got), Long.toString(want));
    }

    static void due(String what, String got, String want) {
        tested = true;
        if (!got.equals(want)) {
            wrong++;
            System.out.println(sentence + what + ": answered " + got + ", due is " + want);
        }
    }

    static String thrownBy(Call call) {
        try {
            call.make();
            return NOTHING;
        } catch (RuntimeException e) {
            return e.getClass().getSimpleName();
        }
    }

    static void thrown(String what, Call call, String want) {
        due(what + " throws", thrownBy(call), want);
    }

    static int addTo(CheckedMachine machine, int[] step) {
        return machine.add(step[0], step[1], step[2], step[3], step[4]);
    }

    static void putIn(CheckedMachine machine, int i, int[] step) {
        machine.put(i, step[0], step[1], step[2], step[3], step[4]);
    }

    static CheckedMachine machine(int[]... steps) {
        CheckedMachine machine = new CheckedMachine();
        for (int[] step : steps) {
            addTo(machine, step);
        }
        return machine;
    }

    static CheckedMachine checked(String what, int[]... steps) {
        CheckedMachine machine = machine(steps);
        thrown(what + ", check", () -> machine.check(), NOTHING);
        return machine;
    }

    static void rejected(String what, int reason, int at, int looked, int[]... steps) {
        CheckedMachine machine = machine(steps);
        thrown(what + ", check", () -> machine.check(), ILLEGAL_ARGUMENT);
        due(what + ", reason", machine.count(2), reason);
        due(what + ", step", machine.count(3), at);
        due(what + ", looked at", machine.count(4), looked);
        due(what + ", is checked", machine.count(1), 0);
        thrown(what + ", run", () -> machine.run(0), ILLEGAL_STATE);
        thrown(what + ", outcome", () -> machine.outcome(true), ILLEGAL_STATE);
    }

    static void outcomes(String what, long least, long greatest, int[]... steps) {
        CheckedMachine machine = checked(what, steps);
        if (machine.count(1) == 0) {
            return;
        }
        due(what + ", least", machine.outcome(false), least);
        due(what + ", greatest", machine.outcome(true), greatest);
    }

    static void answers(String what, long argument, long want, int[]... steps) {
        CheckedMachine machine = checked(what, steps);
        if (machine.count(1) == 1) {
            due(what + ", run(" + argument + ")", machine.run(argument), want);
        }
    }

    static void end() {
        noticeUntested();
        if (wrong != 0) {
            System.out.println(wrong + " answers are not as due");
            System.exit(1);
        }
    }
}
