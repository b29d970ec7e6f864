/** Short names for steps, each {op, d, s, number, target}. */
final class Steps {
    private Steps() {
    }

    static int[] set(int d, int n) {
        return new int[] {0, d, 0, n, 0};
    }

    static int[] copy(int d, int s) {
        return new int[] {1, d, s, 0, 0};
    }

    static int[] plus(int d, int n) {
        return new int[] {2, d, 0, n, 0};
    }

    static int[] plusReg(int d, int s) {
        return new int[] {3, d, s, 0, 0};
    }

    static int[] minus(int d, int s) {
        return new int[] {4, d, s, 0, 0};
    }

    static int[] times(int d, int n) {
        return new int[] {5, d, 0, n, 0};
    }

    static int[] and(int d, int n) {
        return new int[] {6, d, 0, n, 0};
    }

    static int[] shift(int d, int n) {
        return new int[] {7, d, 0, n, 0};
    }

    static int[] divide(int d, int n) {
        return new int[] {8, d, 0, n, 0};
    }

    static int[] negate(int d) {
        return new int[] {9, d, 0, 0, 0};
    }

    static int[] equal(int d, int n, int target) {
        return new int[] {10, d, 0, n, target};
    }

    static int[] above(int d, int n, int target) {
        return new int[] {11, d, 0, n, target};
    }

    static int[] below(int d, int s, int target) {
        return new int[] {12, d, s, 0, target};
    }

    static int[] go(int target) {
        return new int[] {13, 0, 0, 0, target};
    }

    /** D is the cell at S's place, n further on. */
    static int[] load(int d, int s, int n) {
        return new int[] {14, d, s, n, 0};
    }

    /** The cell at D's place, n further on, is S. */
    static int[] store(int d, int n, int s) {
        return new int[] {15, d, s, n, 0};
    }

    static int[] call(int n) {
        return new int[] {16, 0, 0, n, 0};
    }

    static int[] countCalls() {
        return call(0);
    }

    static int[] find() {
        return call(1);
    }

    static int[] greater() {
        return call(2);
    }

    static int[] exit() {
        return new int[] {17, 0, 0, 0, 0};
    }

    static int[][] list(int[]... steps) {
        return steps;
    }

    static int[][] join(int[][]... parts) {
        int size = 0;
        for (int[][] part : parts) {
            size += part.length;
        }
        int[][] all = new int[size][];
        int at = 0;
        for (int[][] part : parts) {
            System.arraycopy(part, 0, all, at, part.length);
            at += part.length;
        }
        return all;
    }

    /** R1, any long, makes register r the range lo .. hi; r must not be 1. */
    static int[][] range(int r, int lo, int hi) {
        return list(copy(r, 1), and(r, hi - lo), plus(r, lo));
    }

    static int[][] any(int r) {
        return list(copy(r, 1));
    }

    /** Register r is -2^62 .. 2^62 - 1. */
    static int[][] half(int r) {
        return list(copy(r, 1), shift(r, 1));
    }

    /** Register r is the least long. */
    static int[][] least(int r) {
        return list(set(r, Integer.MIN_VALUE), times(r, Integer.MIN_VALUE), negate(r), plusReg(r, r));
    }

    /** Register r is the greatest long. */
    static int[][] greatest(int r) {
        return list(set(r, Integer.MIN_VALUE), times(r, Integer.MIN_VALUE), plus(r, -1), plusReg(r, r), plus(r, 1));
    }

    /** After the steps before, R0 is cell 0 of row 3 (and R1 to R3 are empty); if there were none, the answer is 0. */
    static int[][] inRow(int[][] before, int[]... body) {
        int missing = before.length + 3 + body.length;
        return join(before, list(set(1, 3), find(), equal(0, 0, missing)), body, list(set(0, 0), exit()));
    }
}
