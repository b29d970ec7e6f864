/** Short names for steps, each {op, d, s, number, target}. */
final class Steps {
    private Steps() {
    }

    static int[] set(int d, int n) {
        return new int[] {0, d, 0, n, 0};
    }

    static int[] copy(int d, int s) {
        return new int[] {1, d, s, 0, 0};
    }

    static int[] plus(int d, int n) {
        return new int[] {2, d, 0, n, 0};
    }

    static int[] plusReg(int d, int s) {
        return new int[] {3, d, s, 0, 0};
    }

    static int[] minus(int d, int s) {
        return new int[] {4, d, s, 0, 0};
    }

    static int[] times(int d, int n) {
        return new int[] {5, d, 0, n, 0};
    }

    static int[] and(int d, int n) {
        return new int[] {6, d, 0, n, 0};
    }

    static int[] shift(int d, int n) {
        return new int[] {7, d, 0, n, 0};
    }

    static int[] divide(int d, int n) {
        return new int[] {8, d, 0, n, 0};
    }

    static int[] negate(int d) {
        return new int[] {9, d, 0, 0, 0};
    }

    static int[] equal(int d, int n, int target) {
        return new int[] {10, d, 0, n, target};
    }

    static int[] above(int d, int n, int target) {
        return new int[] {11, d, 0, n, target};
    }

    static int[] below(int d, int s, int target) {
        return new int[] {12, d, s, 0, target};
    }

    static int[] go(int target) {
        return new int[] {13, 0, 0, 0, target};
    }

    /** D is the cell at S's place, n further on. */
    static int[] load(int d, int s, int n) {
        return new int[] {14, d, s, n, 0};
    }

    /** The cell at D's place, n further on, is S. */
    static int[] store(int d, int n, int s) {
        return new int[] {15, d, s, n, 0};
    }

    static int[] call(int n) {
        return new int[] {16, 0, 0, n, 0};
    }

    static int[] countCalls() {
        return call(0);
    }

    static int[] find() {
        return call(1);
    }

    static int[] greater() {
        return call(2);
    }

    static int[] exit() {
        return new int[] {17, 0, 0, 0, 0};
    }
}
