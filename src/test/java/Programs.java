import java.util.ArrayList;
import java.util.List;

/** Programs of which a check looks at a given number of steps. */
final class Programs {
    private Programs() {
    }

    /** After SET R0, n forks whose two ways both go to the next step, then EXIT. */
    static CheckedMachine forks(int n) {
        CheckedMachine x = Expect.machine(Steps.set(0, 1));
        for (int i = 0; i < n; i++) {
            Expect.addTo(x, Steps.copy(3, 1));
            Expect.addTo(x, Steps.above(3, -1, x.count(0) + 1));
        }
        Expect.addTo(x, Steps.exit());
        return x;
    }

    /** Steps from number first on, of which a check looks at just so many. */
    private static List<int[]> costing(int looked, int first) {
        List<int[]> steps = new ArrayList<>();
        for (int rest = looked; rest > 1;) {
            if (rest % 2 == 0 && rest > 2) {
                steps.add(Steps.copy(3, 1));
                steps.add(Steps.above(3, -1, first + steps.size() + 1));
                rest = (rest - 2) / 2;
            } else {
                steps.add(Steps.set(0, 1));
                rest--;
            }
        }
        steps.add(Steps.exit());
        return steps;
    }

    static CheckedMachine costingAll(int looked) {
        CheckedMachine x = Expect.machine(Steps.set(0, 1));
        addAll(x, costing(looked - 1, 1));
        return x;
    }

    /** Forks; just so many steps are looked at before the target's way, which has the end. */
    static CheckedMachine costingBefore(int looked, int[] end) {
        List<int[]> middle = costing(looked - 2, 2);
        CheckedMachine x = Expect.machine(Steps.set(0, 1), Steps.above(1, 0, 2 + middle.size()));
        addAll(x, middle);
        Expect.addTo(x, end);
        return x;
    }

    private static void addAll(CheckedMachine x, List<int[]> steps) {
        for (int[] step : steps) {
            Expect.addTo(x, step);
        }
    }
}
