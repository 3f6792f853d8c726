import java.util.Arrays;

/** Promise 12 on long roads: all rows are gone through, car by car and place by place. */
public final class WaysTest {
    private static final Check CHECK = new Check();
    private static final int NOT = -2, MOST_ROWS = 100000;

    private final int kind;
    private final int n;
    private final int back;
    private final int[] lengths;

    private WaysTest(int kind, int n, int back, int... lengths) {
        this.kind = kind;
        this.n = n;
        this.back = back;
        this.lengths = lengths;
    }

    public static void main(String[] args) {
        for (int n = 6; n <= 10; n++) {
            for (int kind = 0; kind < 3; kind++) {
                for (int back = 0; back < (kind == 2 ? n : 1); back += 3) {
                    allOf(kind, n, back);
                }
            }
        }
        CHECK.end("WaysTest");
    }

    /** Long cars first, last, among short ones, and more than there is room for. */
    private static void allOf(int kind, int n, int back) {
        int[][] rows = {{1, 1, 1, 1, 1}, {2, 1, 1, 1}, {1, 1, 1, 2}, {3, 1, 2, 1}, {1, 4, 1}, {2, 2, 2}, {4, 4}, {4, 4, 3}};
        for (int[] lengths : rows) {
            new WaysTest(kind, n, back, lengths).check();
        }
        if (n == 6) {
            new WaysTest(kind, n, back, 1, 1, 1, 1, 1, 1).check();
        }
    }

    private void check() {
        LaneWishes x = Made.road(kind, n, back);
        for (int car = 1; car <= lengths.length; car++) {
            x.car(n);
            x.length(car, lengths[car - 1]);
        }
        long all = (long) Math.pow(n, lengths.length);
        String told = "ways on " + kind + ", " + n + ", " + back + " of " + Arrays.toString(lengths);
        CHECK.due(told, x.ways(), all > MOST_ROWS ? NOT : goodOf((int) all));
    }

    private int goodOf(int all) {
        int good = 0;
        int[] row = new int[lengths.length];
        for (int number = 0; number < all; number++) {
            int digits = number;
            for (int i = 0; i < row.length; i++) {
                row[i] = digits % n + 1;
                digits /= n;
            }
            if (isGood(row)) {
                good++;
            }
        }
        return good;
    }

    private boolean isGood(int[] row) {
        boolean[] taken = new boolean[n + 1];
        for (int i = 0; i < row.length; i++) {
            int place = firstFree(taken, row[i]);
            if (place == 0 || !parks(taken, place, lengths[i])) {
                return false;
            }
        }
        return true;
    }

    private int firstFree(boolean[] taken, int wish) {
        for (int p = wish; kind == 2 && p >= Math.max(1, wish - back); p--) {
            if (!taken[p]) {
                return p;
            }
        }
        for (int step = 0; step < n; step++) {
            int p = wish + step;
            if (p <= n && !taken[p]) {
                return p;
            }
            if (p > n && kind == 1 && !taken[p - n]) {
                return p - n;
            }
        }
        return 0;
    }

    private boolean parks(boolean[] taken, int place, int length) {
        for (int p = place; p < place + length; p++) {
            if (p > n && kind != 1 || taken[(p - 1) % n + 1]) {
                return false;
            }
            taken[(p - 1) % n + 1] = true;
        }
        return true;
    }
}
