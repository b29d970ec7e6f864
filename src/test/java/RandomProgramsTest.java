import java.util.Random;

/**
 * All promises: random programs, mended where they are rejected until they pass, on the class and
 * on PlainMachine; every answer must be the same, and every run's answer one of the outcomes.
 */
public final class RandomProgramsTest {
    private static final int PROGRAMS = Integer.getInteger("programs", 60_000);
    private static final int[] NUMBERS = {0, 0, 0, 1, 1, 2, 3, 5, 6, 7, -1, -1, -2, -3, 8, 15, 31, 32, 62, 63, 64, 99,
        100, 101, -100, -101, 1 << 16, Integer.MAX_VALUE, Integer.MIN_VALUE, Integer.MIN_VALUE + 1};
    private static final long[] ARGUMENTS = {0, 1, 2, 3, 5, 6, 7, 8, -1, -2, 63, 100, 1L << 31, -(1L << 31),
        (1L << 31) + 1, 1L << 62, Long.MAX_VALUE, Long.MIN_VALUE, Long.MIN_VALUE + 1, Long.MAX_VALUE - 1};
    private static final int[] OPS = {0, 0, 1, 1, 2, 2, 3, 3, 4, 5, 6, 6, 7, 8, 9, 10, 10, 10, 11, 11, 12, 12, 12, 13,
        14, 14, 14, 15, 15, 15, 15, 16, 16, 16};

    private final Random random;
    private CheckedMachine machine;
    private PlainMachine plain;
    private int calls;
    private final int[] reasons = new int[8];
    private int passed;
    private int tooLong;
    private boolean manyForks;

    private RandomProgramsTest(long seed) {
        random = new Random(seed);
    }

    public static void main(String[] args) {
        RandomProgramsTest test = new RandomProgramsTest(Long.getLong("seed", 20261115L));
        test.begin();
        for (int i = 0; i < PROGRAMS; i++) {
            test.oneProgram();
        }
        test.expectAllKindsSeen();
        Expect.end();
    }

    private void begin() {
        machine = new CheckedMachine();
        plain = new PlainMachine();
        calls = 0;
    }

    /** A register that holds something more often than not. */
    private int register() {
        return random.nextInt(4) == 0 ? random.nextInt(6) : random.nextInt(3);
    }

    private void oneProgram() {
        if (calls > 200) {
            begin();
        }
        machine.cut(0);
        plain.steps.clear();
        int size = 2 + random.nextInt(23);
        manyForks = random.nextInt(5) == 0;
        boolean frameFirst = random.nextInt(4) == 0;
        for (int i = 0; i < size; i++) {
            int[] step = i == size - 1 ? Steps.exit()
                    : frameFirst && i < 12 ? frameStep(i) : randomStep(i, size);
            Expect.addTo(machine, step);
            plain.steps.add(step);
        }
        calls += size + 1;
        int tries = random.nextInt(60);
        for (int i = 0; i < tries && checkBoth().equals("REJECTED"); i++) {
            int at = Math.min(plain.rejectedAt, size - 1);
            int[] step = mendingStep(at, size);
            Expect.putIn(machine, at, step);
            plain.steps.set(at, step);
        }
        if (checkBoth().equals("CHECKED")) {
            runBoth();
        }
        compareRest();
    }

    private int[] mendingStep(int at, int size) {
        if (at == size - 1) {
            return Steps.exit();
        }
        // Some steps that open the way for the rarer ones.
        switch (random.nextInt(14)) {
            case 0:
                return Steps.and(random.nextInt(6), 1 << random.nextInt(4));
            case 1:
                return Steps.store(2, random.nextInt(6), random.nextInt(6));
            case 2:
                return Steps.plusReg(2, random.nextInt(6));
            case 3:
                return Steps.equal(0, 0, at + 1 + random.nextInt(size - at - 1));
            case 4:
                return Steps.set(random.nextInt(2), random.nextInt(8));
            case 5:
                return Steps.load(0, 2 + 2 * random.nextInt(2), random.nextInt(3));
            case 6:
                return Steps.store(2 + 2 * random.nextInt(2), random.nextInt(3), random.nextInt(2) * 5);
            default:
                return randomStep(at, size);
        }
    }

    private int[] randomStep(int at, int size) {
        if (manyForks && random.nextInt(3) > 0) {
            return forkingStep(at, size);
        }
        int op = random.nextInt(40) == 0 ? random.nextInt(18) : OPS[random.nextInt(OPS.length)];
        int n = NUMBERS[random.nextInt(NUMBERS.length)];
        if (op >= 14 && op <= 16 && random.nextInt(10) > 0) {
            n = random.nextInt(3);
        }
        int target = at + 1 + random.nextInt(Math.max(1, Math.min(4, size - at - 1)));
        if (random.nextInt(60) == 0 || target > 23) {
            target = random.nextInt(24);
        }
        int d = op <= 1 || op == 14 ? random.nextInt(6) : register();
        return new int[] {op, d, register(), n, target};
    }

    /** Fills cells, makes R4 one of several places and goes on with it. */
    private int[] frameStep(int i) {
        switch (i) {
            case 0:
                return Steps.copy(4, 2);
            case 1:
                return Steps.copy(5, 1);
            case 2:
                return Steps.and(5, random.nextInt(4));
            case 3:
                return Steps.plusReg(4, 5);
            default:
                break;
        }
        int r = random.nextBoolean() ? 0 : random.nextBoolean() ? 5 : random.nextInt(6);
        int n = random.nextInt(12) == 0 ? random.nextInt(9) - 2 : random.nextInt(4);
        switch (random.nextInt(7)) {
            case 0:
                return Steps.load(0, 4, n);
            case 1:
                return Steps.store(4, n, r);
            case 2:
                return Steps.plus(5, random.nextInt(200) - 100);
            case 3:
                return Steps.set(0, random.nextInt(200) - 100);
            default:
                return Steps.store(2, random.nextInt(6), r);
        }
    }

    /** Every other step makes a register whatever may be, the ones between fork on it. */
    private int[] forkingStep(int at, int size) {
        int r = 3 + at / 2 % 3;
        int target = Math.min(at + 1 + random.nextInt(2), size - 1);
        int n = random.nextInt(5) - 2;
        if (at % 2 == 0 || at >= 23) {
            return Steps.copy(r, 1);
        }
        return new int[] {10 + random.nextInt(3), r, random.nextBoolean() ? 1 : 3 + random.nextInt(3), n, target};
    }

    private String checkBoth() {
        calls++;
        String want = plain.check();
        String thrown = Expect.thrownBy(() -> machine.check());
        String got = thrown.equals(Expect.NOTHING) ? "CHECKED"
                : thrown.equals(Expect.ILLEGAL_ARGUMENT) ? "REJECTED"
                : thrown.equals(Expect.UNSUPPORTED) ? "TOO LONG" : thrown;
        same("check", got, want);
        same("reason", machine.count(2), plain.reason);
        same("its step", machine.count(3), plain.rejectedAt);
        same("looked at", machine.count(4), plain.looked);
        same("checked", machine.count(1), plain.checked ? 1 : 0);
        if (want.equals("REJECTED")) {
            reasons[plain.reason]++;
        } else if (want.equals("TOO LONG")) {
            tooLong++;
        } else {
            passed++;
            same("least", machine.outcome(false), plain.least.longValueExact());
            same("greatest", machine.outcome(true), plain.greatest.longValueExact());
        }
        return want;
    }

    private void runBoth() {
        for (int i = 0; i < 6; i++) {
            calls++;
            int r = random.nextInt(6);
            long v = ARGUMENTS[random.nextInt(ARGUMENTS.length)];
            machine.fill(r, i % 2, v);
            plain.map[r][i % 2] = v;
            long argument = random.nextInt(3) == 0 ? random.nextLong() : ARGUMENTS[random.nextInt(ARGUMENTS.length)];
            long want = plain.run(argument);
            same("run(" + argument + ")", machine.run(argument), want);
            same("steps run", machine.count(5), plain.stepsRun);
            same("an outcome", want >= machine.outcome(false) && want <= machine.outcome(true) ? 1 : 0, 1);
        }
    }

    private void compareRest() {
        same("steps", machine.count(0), plain.steps.size());
        same("COUNT's calls", machine.count(6), plain.countCalls);
        for (int i = 0; i < 12; i++) {
            same("row", machine.row(i / 2, i % 2), plain.map[i / 2][i % 2]);
        }
    }

    private void same(String what, long got, long want) {
        if (got != want) {
            same(what, Long.toString(got), Long.toString(want));
        }
    }

    private void same(String what, String got, String want) {
        if (!got.equals(want)) {
            StringBuilder text = new StringBuilder(what).append(" of");
            for (int[] step : plain.steps) {
                text.append(' ').append(java.util.Arrays.toString(step));
            }
            Expect.due(text.toString(), got, want);
            Expect.end();
        }
    }

    // Random programs that never get somewhere would test nothing there.
    private void expectAllKindsSeen() {
        System.out.println("random programs: " + passed + " checks passed, " + tooLong
                + " too long, rejected by reason " + java.util.Arrays.toString(reasons));
        Expect.due("enough passed", passed > PROGRAMS / 20 ? 1 : 0, 1);
        Expect.due("enough too long", tooLong > PROGRAMS / 1000 ? 1 : 0, 1);
        for (int reason = 1; reason <= 7; reason++) {
            Expect.due("enough of reason " + reason, reasons[reason] > PROGRAMS / 1000 ? 1 : 0, 1);
        }
    }
}
