/** Promise 34: spreads, up to the longest roads. */
public final class SpreadsTest {
    private static final Check CHECK = new Check();

    public static void main(String[] args) {
        wrong();
        allTogether();
        byAllRows();
        longOnes();
        CHECK.end("SpreadsTest");
    }

    private static void wrong() {
        LaneWishes x = new LaneWishes();
        CHECK.due("what -1", x.spread(-1, 5, 1), -1);
        CHECK.due("what 6", x.spread(6, 5, 1), -1);
        for (int what = 0; what < 6; what++) {
            CHECK.due("n 0", x.spread(what, 0, 1), -1);
            CHECK.due("n 11", x.spread(what, 11, 1), -1);
            CHECK.due("n far below", x.spread(what, Integer.MIN_VALUE, 1), -1);
            int[] none = {-1, 46, 1000, Integer.MAX_VALUE, Integer.MIN_VALUE};
            for (int v : none) {
                CHECK.due("there are none", x.spread(what, 10, v), 0);
                CHECK.due("there are none", x.spread(what, 1, v), 0);
            }
        }
    }

    /** Every row of n is in just one part of each spread; asked of the longest first, and of the shortest first. */
    private static void allTogether() {
        LaneWishes down = new LaneWishes();
        LaneWishes up = new LaneWishes();
        long[] all = {1, 3, 16, 125, 1296, 16807, 262144, 4782969, 100000000, 2357947691L};
        for (int i = 1; i <= 10; i++) {
            for (int what = 0; what < 6; what++) {
                CHECK.due("all of spread " + what, sum(up, what, i), all[i - 1]);
                CHECK.due("all of spread " + what, sum(down, what, 11 - i), all[10 - i]);
            }
        }
    }

    private static long sum(LaneWishes x, int what, int n) {
        long sum = 0;
        for (int v = -2; v <= 50; v++) {
            sum += x.spread(what, n, v);
        }
        return sum;
    }

    private static void byAllRows() {
        for (int n = 1; n <= 6; n++) {
            LaneWishes x = new LaneWishes();
            x.road(0, n, 0);
            x.unrank(n, 0);
            long[][] found = new long[6][47];
            do {
                int ones = 0;
                for (int c = 1; c <= n; c++) {
                    ones += x.told(c, 0) == 1 ? 1 : 0;
                }
                found[0][x.count(5)]++;
                found[1][x.count(4)]++;
                found[2][x.told(n, 2)]++;
                found[3][x.told(1, 0)]++;
                found[4][ones]++;
                found[5][Integer.bitCount(x.cuts())]++;
            } while (x.next() == 1);
            for (int what = 0; what < 6; what++) {
                for (int v = 0; v <= 46; v++) {
                    CHECK.due("spread(" + what + ", " + n + ", " + v + ")", x.spread(what, n, v), found[what][v]);
                }
            }
        }
    }

    private static void longOnes() {
        LaneWishes x = new LaneWishes();
        CHECK.due("none goes", x.spread(0, 10, 0), 3628800);
        CHECK.due("all go as far as can be", x.spread(0, 10, 45), 1);
        CHECK.due("all but one step", x.spread(0, 10, 44), 10);
        CHECK.due("one lucky", x.spread(1, 10, 1), 362880);
        CHECK.due("all lucky", x.spread(1, 10, 10), 3628800);
        CHECK.due("the last at 10", x.spread(2, 10, 10), 1000000000);
        CHECK.due("the first wishes 10", x.spread(3, 10, 10), 100000000);
        CHECK.due("one wishes 1", x.spread(4, 10, 1), 1000000000);
        CHECK.due("nowhere cut", x.spread(5, 10, 0), 387420489);
        CHECK.due("cut everywhere", x.spread(5, 10, 9), 3628800);
        for (int n = 1; n <= 10; n++) {
            x.road(0, n, 0);
            CHECK.due("primes are cut nowhere", x.spread(5, n, 0), x.primes());
        }
    }
}
