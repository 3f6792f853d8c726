/** Promise 34: spreads, up to the longest roads. */
public final class SpreadsTest {
    private static final Check CHECK = new Check();

    public static void main(String[] args) {
        wrong();
        allTogether();
        byAllRows();
        byRisingRows();
        longOnes();
        CHECK.end("SpreadsTest");
    }

    private static void wrong() {
        LaneWishes x = new LaneWishes();
        CHECK.due("what -1", x.spread(-1, 5, 1), -1);
        CHECK.due("what 6", x.spread(6, 5, 1), -1);
        for (int what = 0; what < 6; what++) {
            CHECK.due("n 0", x.spread(what, 0, 1), -1);
            CHECK.due("n 11", x.spread(what, 11, 1), -1);
            CHECK.due("n far below", x.spread(what, Integer.MIN_VALUE, 1), -1);
            int[] none = {-1, 46, 1000, Integer.MAX_VALUE, Integer.MIN_VALUE};
            for (int v : none) {
                CHECK.due("there are none", x.spread(what, 10, v), 0);
                CHECK.due("there are none", x.spread(what, 1, v), 0);
            }
        }
    }

    /** Every row of n is in just one part of each spread; asked of the longest first, and of the shortest first. */
    private static void allTogether() {
        LaneWishes down = new LaneWishes();
        LaneWishes up = new LaneWishes();
        long[] all = {1, 3, 16, 125, 1296, 16807, 262144, 4782969, 100000000, 2357947691L};
        for (int i = 1; i <= 10; i++) {
            for (int what = 0; what < 6; what++) {
                CHECK.due("all of spread " + what, sum(up, what, i), all[i - 1]);
                CHECK.due("all of spread " + what, sum(down, what, 11 - i), all[10 - i]);
            }
        }
    }

    private static long sum(LaneWishes x, int what, int n) {
        long sum = 0;
        for (int v = -2; v <= 50; v++) {
            sum += x.spread(what, n, v);
        }
        return sum;
    }

    private static void byAllRows() {
        for (int n = 1; n <= 6; n++) {
            LaneWishes x = new LaneWishes();
            x.road(0, n, 0);
            x.unrank(n, 0);
            long[][] found = new long[6][47];
            do {
                int ones = 0;
                for (int c = 1; c <= n; c++) {
                    ones += x.told(c, 0) == 1 ? 1 : 0;
                }
                found[0][x.count(5)]++;
                found[1][x.count(4)]++;
                found[2][x.told(n, 2)]++;
                found[3][x.told(1, 0)]++;
                found[4][ones]++;
                found[5][Integer.bitCount(x.cuts())]++;
            } while (x.next() == 1);
            for (int what = 0; what < 6; what++) {
                for (int v = 0; v <= 46; v++) {
                    CHECK.due("spread(" + what + ", " + n + ", " + v + ")", x.spread(what, n, v), found[what][v]);
                }
            }
        }
    }

    /** Of each rising good row there are as many rows as it has orders; on long roads those can be gone through. */
    private static void byRisingRows() {
        for (int n = 7; n <= 10; n++) {
            long[][] found = new long[6][47];
            addRising(found, n, n, new int[n], 0);
            addRising(found, n, n - 1, new int[n - 1], 0);
            long[] lucky = luckyByProduct(n);
            System.arraycopy(lucky, 0, found[1], 0, lucky.length);
            LaneWishes x = new LaneWishes();
            for (int what = 0; what < 6; what++) {
                for (int v = 0; v <= 46; v++) {
                    CHECK.due("spread(" + what + ", " + n + ", " + v + ")", x.spread(what, n, v), found[what][v]);
                }
            }
        }
    }

    private static void addRising(long[][] found, int n, int k, int[] row, int set) {
        if (set < k) {
            for (int wish = set == 0 ? 1 : row[set - 1]; wish <= n - k + set + 1; wish++) {
                row[set] = wish;
                addRising(found, n, k, row, set + 1);
            }
        } else if (k == n) {
            addWhole(found, row);
        } else {
            addWithoutLast(found, row);
        }
    }

    private static void addWhole(long[][] found, int[] row) {
        int n = row.length;
        int[] wishers = new int[n + 1];
        int goes = 0;
        int cuts = 0;
        for (int i = 0; i < n; i++) {
            wishers[row[i]]++;
            goes += i + 1 - row[i];
            // sorted, i wishes are i or less just where the next is more than i
            cuts += i > 0 && row[i] == i + 1 ? 1 : 0;
        }
        long orders = orders(wishers, n);
        found[0][goes] += orders;
        for (int v = 1; v <= n; v++) {
            found[3][v] += orders * wishers[v] / n;
        }
        found[4][wishers[1]] += orders;
        found[5][cuts] += orders;
    }

    /** All cars but the last have come in, in whatever order: the last comes to the place that is left, from any ahead. */
    private static void addWithoutLast(long[][] found, int[] row) {
        int n = row.length + 1;
        int[] wishers = new int[n + 1];
        int place = 1;
        int left = 0;
        for (int wish : row) {
            wishers[wish]++;
            if (wish > place) {
                left = place;
                place++;
            }
            place++;
        }
        left = left == 0 ? n : left;
        found[2][left] += orders(wishers, n - 1) * left;
    }

    private static long orders(int[] wishers, int cars) {
        long orders = factorial(cars);
        for (int alike : wishers) {
            orders /= factorial(alike);
        }
        return orders;
    }

    private static long factorial(int of) {
        long product = 1;
        for (int i = 2; i <= of; i++) {
            product *= i;
        }
        return product;
    }

    /** Known of old: q times all (i + (n - i + 1) q), i from 1 to n - 1, in which q to the v tells those with v lucky cars. */
    private static long[] luckyByProduct(int n) {
        long[] product = new long[n + 1];
        product[1] = 1;
        for (int i = 1; i < n; i++) {
            for (int v = n; v >= 1; v--) {
                product[v] = product[v] * i + product[v - 1] * (n - i + 1);
            }
        }
        return product;
    }

    private static void longOnes() {
        LaneWishes x = new LaneWishes();
        CHECK.due("none goes", x.spread(0, 10, 0), 3628800);
        CHECK.due("all go as far as can be", x.spread(0, 10, 45), 1);
        CHECK.due("all but one step", x.spread(0, 10, 44), 10);
        CHECK.due("one lucky", x.spread(1, 10, 1), 362880);
        CHECK.due("all lucky", x.spread(1, 10, 10), 3628800);
        CHECK.due("the last at 10", x.spread(2, 10, 10), 1000000000);
        CHECK.due("the first wishes 10", x.spread(3, 10, 10), 100000000);
        CHECK.due("one wishes 1", x.spread(4, 10, 1), 1000000000);
        CHECK.due("nowhere cut", x.spread(5, 10, 0), 387420489);
        CHECK.due("cut everywhere", x.spread(5, 10, 9), 3628800);
        for (int n = 1; n <= 10; n++) {
            x.road(0, n, 0);
            CHECK.due("primes are cut nowhere", x.spread(5, n, 0), x.primes());
        }
    }
}
