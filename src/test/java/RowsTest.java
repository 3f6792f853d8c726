/** Promises 13 to 25: rows in order. Short roads are held against SlowWishes elsewhere; here are long ones and edges. */
public final class RowsTest {
    private static final Check CHECK = new Check();
    private static final int BAD = -1, NOT = -2, NONE = -4;

    public static void main(String[] args) {
        counted();
        toldByPlace();
        risingToldByPlace();
        wholeOrders();
        firstWishesInOrder();
        likeAndOrders();
        rise();
        cuts();
        mend();
        refusals();
        CHECK.end("RowsTest");
    }

    private static LaneWishes with(int kind, int n, int... wishes) {
        return Made.road(kind, n, 1, wishes);
    }

    private static void wishes(String told, LaneWishes x, int... want) {
        CHECK.due(told + ": how many cars", x.count(1), want.length);
        for (int c = 1; c <= want.length; c++) {
            CHECK.due(told + ": wish of " + c, x.told(c, 0), want[c - 1]);
            CHECK.due(told + ": length of " + c, x.told(c, 1), 1);
        }
    }

    private static void counted() {
        LaneWishes x = with(0, 10);
        long[] rows = {1, 10, 99, 968, 9317, 87846, 805255, 7086244, 58461513, 428717762, 2357947691L};
        long[] risings = {1, 10, 54, 208, 637, 1638, 3640, 7072, 11934, 16796, 16796};
        for (int k = 0; k <= 10; k++) {
            CHECK.due("rows(" + k + ")", x.rows(k), rows[k]);
            CHECK.due("risings(" + k + ")", x.risings(k), risings[k]);
        }
        CHECK.due("rows(11)", x.rows(11), BAD);
        CHECK.due("rows(-1)", x.rows(-1), BAD);
        CHECK.due("risings(11)", x.risings(11), BAD);
        CHECK.due("risings(-1)", x.risings(-1), BAD);
        CHECK.due("rows counts as PLAIN on any road", with(1, 3, 2).rows(3), 16);
        CHECK.due("risings counts as PLAIN on any road", with(2, 3, 2).risings(3), 5);
        long[] primes = {1, 1, 4, 27, 256, 3125, 46656, 823543, 16777216, 387420489};
        for (int n = 1; n <= 10; n++) {
            CHECK.due("primes of " + n, with(n % 3, n).primes(), primes[n - 1]);
        }
    }

    private static void toldByPlace() {
        LaneWishes x = with(0, 10);
        CHECK.due("the first", x.unrank(10, 0), 10);
        wishes("the first", x, 1, 1, 1, 1, 1, 1, 1, 1, 1, 1);
        CHECK.due("the last", x.unrank(10, 2357947690L), 10);
        wishes("the last", x, 10, 9, 8, 7, 6, 5, 4, 3, 2, 1);
        CHECK.due("rank of the last", x.rank(), 2357947690L);
        CHECK.due("next of the last", x.next(), NONE);
        wishes("the last stays", x, 10, 9, 8, 7, 6, 5, 4, 3, 2, 1);
        CHECK.due("one beyond the last", x.unrank(10, 2357947691L), BAD);
        CHECK.due("a number beyond ints", x.unrank(10, 1L << 40), BAD);
        CHECK.due("a negative number", x.unrank(10, -1), BAD);
        CHECK.due("too many wishes", x.unrank(11, 0), BAD);
        CHECK.due("fewer than none", x.unrank(-1, 0), BAD);
        wishes("refused, the cars stay", x, 10, 9, 8, 7, 6, 5, 4, 3, 2, 1);
        for (int k = 1; k <= 10; k++) {
            long all = x.rows(k);
            long step = Math.max(1, all / 7);
            for (long r = 0; r < all - 1; r += step) {
                CHECK.due("unrank", x.unrank(k, r), k);
                CHECK.due("good", x.good(), 1);
                CHECK.due("rank", x.rank(), r);
                CHECK.due("next", x.next(), 1);
                CHECK.due("rank of the next", x.rank(), r + 1);
            }
        }
        CHECK.due("no wishes", x.unrank(0, 0), 0);
        CHECK.due("the only row of none", x.rank(), 0);
        CHECK.due("is the last", x.next(), NONE);
        CHECK.due("unrank of none again", x.unrank(0, 1), BAD);
        x.car(1);
        x.length(1, 2);
        CHECK.due("unrank of long cars", x.unrank(2, 98), 2);
        wishes("unranked cars are of length 1", x, 10, 9);
    }

    private static void risingToldByPlace() {
        LaneWishes x = with(0, 10);
        for (int k = 0; k <= 10; k++) {
            long all = x.risings(k);
            long before = -1;
            for (long r = 0; r < all; r += k < 4 ? 1 : 97) {
                CHECK.due("riseUnrank", x.riseUnrank(k, r), k);
                CHECK.due("good", x.good(), 1);
                CHECK.due("it is rising", x.rise(), 0);
                CHECK.due("riseRank", x.riseRank(), r);
                CHECK.due("in order", x.rank() > before ? 1 : 0, 1);
                before = x.rank();
            }
            CHECK.due("riseUnrank of the last", x.riseUnrank(k, all - 1), k);
            for (int c = 1; c <= k; c++) {
                CHECK.due("the last", x.told(c, 0), 10 - k + c);
            }
            CHECK.due("riseUnrank beyond the last", x.riseUnrank(k, all), BAD);
            CHECK.due("riseUnrank of -1", x.riseUnrank(k, -1), BAD);
        }
        CHECK.due("riseUnrank of too many", x.riseUnrank(11, 0), BAD);
        CHECK.due("riseUnrank of -1", x.riseUnrank(-1, 0), BAD);
        x.length(1, 2);
        x.riseUnrank(1, 3);
        wishes("riseUnranked cars are of length 1", x, 4);
    }

    /** From the first on, next comes to all rows, each with its number. */
    private static void wholeOrders() {
        for (int n = 1; n <= 6; n++) {
            LaneWishes x = with(0, n);
            for (int k = 1; k <= n; k++) {
                long all = x.rows(k);
                int step = n == 6 ? 11 : 1;
                x.unrank(k, 0);
                for (long r = 0; r < all; r++) {
                    if (r % step == 0) {
                        CHECK.due("rank in order", x.rank(), r);
                    }
                    CHECK.due("next in order", x.next(), r == all - 1 ? NONE : 1);
                }
            }
        }
    }

    /** Spreads are counted by where the last car is at, the book by the endings of a beginning: both must agree. */
    private static void firstWishesInOrder() {
        for (int n = 1; n <= 10; n++) {
            LaneWishes x = with(0, n);
            long row = 0;
            for (int v = 1; v <= n; v++) {
                x.unrank(n, row);
                CHECK.due("the first row with this first wish", x.told(1, 0), v);
                CHECK.due("the rest of it wish 1", x.count(1) == n && n > 1 ? x.told(n, 0) : 1, 1);
                row += x.spread(3, n, v);
                x.unrank(n, row - 1);
                CHECK.due("the last row with this first wish", x.told(1, 0), v);
            }
            CHECK.due("all rows", row, x.rows(n));
        }
    }

    private static void likeAndOrders() {
        CHECK.due("like of ones", with(0, 10, 1, 1, 1, 1, 1, 1, 1, 1, 1, 1).like(), 3628800);
        CHECK.due("like of falling ones", with(0, 4, 4, 3, 2, 1).like(), 1);
        CHECK.due("like of few", with(0, 9, 5, 5, 4, 9, 4).like(), 2 * 4);
        CHECK.due("like of none", with(0, 9).like(), 1);
        CHECK.due("orders of ten", with(0, 10, 1, 2, 3, 4, 5, 6, 7, 8, 9, 10).orders(), 3628800);
        CHECK.due("orders of like ones", with(0, 10, 4, 4, 4, 4, 4, 4, 4, 4, 4, 4).orders(), 1);
        CHECK.due("orders of threes", with(0, 10, 1, 1, 1, 2, 2, 2, 10, 10, 10).orders(), 1680);
        LaneWishes x = with(0, 4, 4, 4, 3);
        x.length(1, 4);
        CHECK.due("orders of long cars that leave", x.orders(), 3);
        CHECK.due("orders of no cars", with(0, 4).orders(), 1);
    }

    private static void rise() {
        LaneWishes x = with(1, 6, 5, 2, 5, 1);
        x.length(1, 3);
        CHECK.due("rise", x.rise(), 2);
        int[] want = {1, 2, 5, 5};
        for (int c = 1; c <= 4; c++) {
            CHECK.due("risen", x.told(c, 0), want[c - 1]);
            CHECK.due("lengths stay", x.told(c, 1), c == 1 ? 3 : 1);
        }
        CHECK.due("places are new", x.told(1, 2), 1);
        CHECK.due("rise again", x.rise(), 0);
        CHECK.due("rise of none", with(0, 3).rise(), 0);
        CHECK.due("rise of two", with(0, 3, 2, 1).rise(), 2);
    }

    private static void cuts() {
        CHECK.due("cut everywhere", with(0, 10, 10, 9, 8, 7, 6, 5, 4, 3, 2, 1).cuts(), 0x3fe);
        CHECK.due("prime", with(0, 4, 1, 1, 2, 3).cuts(), 0);
        CHECK.due("cut behind 2", with(0, 4, 3, 1, 3, 1).cuts(), 4);
        CHECK.due("one place", with(0, 1, 1).cuts(), 0);
    }

    private static void mend() {
        LaneWishes x = with(0, 5, 5, 3, 5, 4, 5);
        CHECK.due("mend", x.mend(), 2);
        wishes("of like ones the greatest numbers", x, 5, 3, 1, 4, 1);
        CHECK.due("mended is good", x.good(), 1);
        CHECK.due("mend again", x.mend(), 0);
        LaneWishes y = with(0, 4, 4, 4, 4, 4);
        CHECK.due("mend of the worst", y.mend(), 3);
        wishes("mended worst", y, 4, 1, 1, 1);
        LaneWishes z = with(0, 4, 2, 2, 4, 3);
        CHECK.due("mend of one", z.mend(), 1);
        wishes("the greatest", z, 2, 2, 1, 3);
        LaneWishes one = with(0, 10, 10, 10, 10, 10, 10, 10, 10, 10, 10, 10);
        CHECK.due("mend of ten", one.mend(), 9);
    }

    private static void refusals() {
        LaneWishes few = with(0, 3, 1, 2);
        for (LaneWishes x : Made.notPlainGood()) {
            int worst = x.told(1, 0);
            CHECK.due("rank", x.rank(), NOT);
            CHECK.due("next", x.next(), NOT);
            CHECK.due("like", x.like(), NOT);
            CHECK.due("riseRank", x.riseRank(), NOT);
            CHECK.due("cuts", x.cuts(), NOT);
            CHECK.due("mend asks for PLAIN alone", x.mend(), worst == 3 ? 2 : NOT);
        }
        CHECK.due("cuts of few", few.cuts(), NOT);
        CHECK.due("mend of few", few.mend(), NOT);
        CHECK.due("rank of few", few.rank(), 1);
        CHECK.due("riseRank of few", few.riseRank(), 1);
        CHECK.due("riseRank of falling ones", with(0, 3, 2, 1).riseRank(), NOT);
        for (int kind = 1; kind < 3; kind++) {
            LaneWishes x = with(kind, 3, 1, 1, 1);
            CHECK.due("orders", x.orders(), NOT);
            CHECK.due("unrank", x.unrank(2, 0), NOT);
            CHECK.due("unrank of a wrong number first", x.unrank(2, 99), BAD);
            CHECK.due("riseUnrank", x.riseUnrank(2, 0), NOT);
            CHECK.due("riseUnrank of a wrong number first", x.riseUnrank(4, 0), BAD);
            wishes("refused, the cars stay", x, 1, 1, 1);
        }
    }
}
