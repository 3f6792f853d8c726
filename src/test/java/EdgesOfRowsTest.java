/**
 * The sentences of the document that name an edge, of 'Terms' 2 and promises 13 to 25: each has a test of its own,
 * with the sentence above it.
 */
public final class EdgesOfRowsTest {
    private static final int BAD = Edges.BAD, NOT = Edges.NOT, NONE = Edges.NONE;
    private static final long ALL_OF_TEN = 2357947691L;
    private static final long BEYOND_INTS = 1L << 32;

    public static void main(String[] args) throws ReflectiveOperationException {
        Edges.runAll(EdgesOfRowsTest.class);
    }

    private static LaneWishes two() {
        return Made.withLength(Made.straight(3, 2, 3), 1, 2);
    }

    private static LaneWishes ones(int kind, int n) {
        LaneWishes x = Made.road(kind, n, 9);
        while (x.car(1) > 0) {
            continue;
        }
        return x;
    }

    /** N, N - 1, .. 1. */
    private static LaneWishes falling(int n) {
        LaneWishes x = Made.straight(n);
        for (int wish = n; wish >= 1; wish--) {
            x.car(wish);
        }
        return x;
    }

    // ---- 2 ROWS

    // "are told from 0 on": the first of each length is 0, the last one less than all
    static void term2ToldFromNought() {
        for (int k = 0; k <= 4; k++) {
            LaneWishes x = Made.straight(4);
            x.unrank(k, 0);
            Edges.due("the first", x.rank(), 0);
            long last = x.rows(k) - 1;
            x.unrank(k, last);
            Edges.due("the last", x.rank(), last);
        }
    }

    // "the first WISH counts most": 1 N comes ahead of 2 1
    static void term2TheFirstWishCountsMost() {
        Edges.due("1 3", Made.straight(3, 1, 3).rank(), 2);
        Edges.due("2 1", Made.straight(3, 2, 1).rank(), 3);
        Edges.due("3 2, the last", Made.straight(3, 3, 2).rank(), 7);
    }

    // "LIKE are ROWS by which each CAR is AT the same PLACE": the row is one of them
    static void term2ARowIsLikeItself() {
        Edges.due("no cars", Made.straight(3).like(), 1);
        Edges.due("one car at 1", Made.straight(3, 1).like(), 1);
        Edges.due("one car at 3: nothing is taken ahead of it", Made.straight(3, 3).like(), 1);
    }

    // "RISING, if no WISH is less than the one ahead of it": like ones may stand side by side
    static void term2RisingOfLikeWishes() {
        Edges.due("like ones", Made.straight(3, 1, 1, 1).riseRank(), 0);
        Edges.due("one", Made.straight(3, 3).riseRank(), 2);
        Edges.due("none", Made.straight(3).riseRank(), 0);
    }

    // "no WISH is less": the last pair, the first pair
    static void term2NotRisingInOnePair() {
        Edges.due("the first pair", Made.straight(4, 2, 1, 3, 4).riseRank(), NOT);
        Edges.due("the last pair", Made.straight(4, 1, 2, 4, 3).riseRank(), NOT);
    }

    // "CUT .. behind PLACE i (1 .. N - 1)": the first and the last; never behind N
    static void term2CutBehindTheFirstAndTheLastPlace() {
        Edges.due("behind 1", Made.straight(3, 2, 1, 2).cuts(), 2);
        Edges.due("behind N - 1", Made.straight(3, 1, 3, 1).cuts(), 4);
        Edges.due("never behind N", Made.straight(3, 1, 1, 1).cuts(), 0);
    }

    // "just i WISHES are i or less": one more is no cut
    static void term2JustSoManyWishes() {
        Edges.due("two wish 2 or less", Made.straight(4, 1, 2, 3, 3).cuts(), 2 + 4);
        Edges.due("three wish 2 or less", Made.straight(4, 1, 2, 2, 4).cuts(), 2 + 8);
    }

    // "PRIME, if it is CUT nowhere": the only row of one place is
    static void term2TheRowOfOnePlaceIsPrime() {
        LaneWishes x = Made.straight(1, 1);
        Edges.due("cuts()", x.cuts(), 0);
        Edges.due("primes()", x.primes(), 1);
    }

    // MEND: "those of the greatest WISHES (of like ones of the greatest numbers)"
    static void term2MendOfLikeOnesTheGreatestNumbers() {
        LaneWishes x = Made.straight(4, 4, 4, 4, 1);
        Edges.due("mend()", x.mend(), 2);
        Edges.wishes(x, 4, 1, 1, 1);
    }

    // MEND: the greatest wish, though a greater number wishes less
    static void term2MendOfTheGreatestWish() {
        LaneWishes x = Made.straight(4, 3, 4, 3, 3);
        Edges.due("mend()", x.mend(), 2);
        Edges.wishes(x, 3, 1, 3, 1);
    }

    // MEND: the first car alone has the greatest wish
    static void term2MendOfTheFirstCar() {
        LaneWishes x = Made.straight(3, 3, 2, 2);
        Edges.due("mend()", x.mend(), 1);
        Edges.wishes(x, 1, 2, 2);
    }

    // ---- Promise 13: rows

    static void promise13KBelow0() {
        Edges.refused(BAD, EdgesOfRowsTest::two, x -> x.rows(-1));
        Edges.refused(BAD, EdgesOfRowsTest::two, x -> x.rows(Edges.FAR_BELOW));
    }

    static void promise13KAboveN() {
        Edges.refused(BAD, EdgesOfRowsTest::two, x -> x.rows(4));
        Edges.refused(BAD, EdgesOfRowsTest::two, x -> x.rows(Edges.FAR));
        Edges.refused(BAD, () -> Made.straight(10), x -> x.rows(11));
        Edges.refused(BAD, () -> Made.straight(1), x -> x.rows(2));
    }

    // "k WISHES (0 .. N)": none: one row
    static void promise13OfNoWishes() {
        for (int n = 1; n <= 10; n++) {
            Edges.due("rows(0) of " + n, Made.straight(n).rows(0), 1);
        }
    }

    // "k WISHES (0 .. N)": N, and one less
    static void promise13OfAsManyWishesAsPlaces() {
        long[] all = {1, 3, 16, 125, 1296, 16807, 262144, 4782969, 100000000, ALL_OF_TEN};
        long[] oneLess = {1, 2, 8, 50, 432, 4802, 65536, 1062882, 20000000, 428717762};
        for (int n = 1; n <= 10; n++) {
            Edges.due("rows(N) of " + n, Made.straight(n).rows(n), all[n - 1]);
            Edges.due("rows(N - 1) of " + n, Made.straight(n).rows(n - 1), oneLess[n - 1]);
        }
    }

    // "PLAIN": whatever the road and its cars are
    static void promise13PlainOnAnyRoad() {
        Edges.due("round", Made.road(1, 3, 0, 3, 3, 3).rows(3), 16);
        Edges.due("backing", Made.road(2, 3, 9, 3, 3, 3).rows(3), 16);
        Edges.due("long", two().rows(2), 8);
    }

    // ---- Promise 14: rank

    static void promise14NotPlain() {
        Edges.refusedInAll(NOT, Made.notPlain(), x -> x.rank());
    }

    static void promise14NotGood() {
        Edges.refusedInAll(NOT, Made.notGood(), x -> x.rank());
    }

    // the first, the last
    static void promise14TheFirstAndTheLast() {
        Edges.due("no cars", Made.straight(10).rank(), 0);
        for (int n = 1; n <= 10; n++) {
            Edges.due("ones", ones(0, n).rank(), 0);
            Edges.due("falling", falling(n).rank(), Made.straight(n).rows(n) - 1);
        }
    }

    // ---- Promise 15: unrank

    static void promise15KBelow0() {
        Edges.refused(BAD, EdgesOfRowsTest::two, x -> x.unrank(-1, 0));
        Edges.refused(BAD, EdgesOfRowsTest::two, x -> x.unrank(Edges.FAR_BELOW, 0));
    }

    static void promise15KAboveN() {
        Edges.refused(BAD, EdgesOfRowsTest::two, x -> x.unrank(4, 0));
        Edges.refused(BAD, EdgesOfRowsTest::two, x -> x.unrank(Edges.FAR, 0));
        Edges.refused(BAD, () -> Made.straight(10), x -> x.unrank(11, 0));
    }

    static void promise15RBelow0() {
        Edges.refused(BAD, EdgesOfRowsTest::two, x -> x.unrank(3, -1));
        Edges.refused(BAD, EdgesOfRowsTest::two, x -> x.unrank(3, Long.MIN_VALUE));
        Edges.refused(BAD, EdgesOfRowsTest::two, x -> x.unrank(0, -1));
    }

    // "ROW r": one beyond the last
    static void promise15RBeyondTheLast() {
        Edges.refused(BAD, EdgesOfRowsTest::two, x -> x.unrank(3, 16));
        Edges.refused(BAD, EdgesOfRowsTest::two, x -> x.unrank(2, 8));
        Edges.refused(BAD, EdgesOfRowsTest::two, x -> x.unrank(1, 3));
        Edges.refused(BAD, EdgesOfRowsTest::two, x -> x.unrank(0, 1));
        Edges.refused(BAD, () -> Made.straight(10, 3), x -> x.unrank(10, ALL_OF_TEN));
        Edges.refused(BAD, EdgesOfRowsTest::two, x -> x.unrank(3, Long.MAX_VALUE));
    }

    // r is a long: what its lower half names does not count
    static void promise15RBeyondInts() {
        Edges.refused(BAD, EdgesOfRowsTest::two, x -> x.unrank(3, BEYOND_INTS));
        Edges.refused(BAD, EdgesOfRowsTest::two, x -> x.unrank(3, 3 * BEYOND_INTS + 5));
        Edges.refused(BAD, EdgesOfRowsTest::two, x -> x.unrank(3, 5 - BEYOND_INTS));
    }

    // "ROW r": the first, the last
    static void promise15TheFirstAndTheLast() {
        for (int n = 1; n <= 10; n++) {
            LaneWishes x = Made.straight(n);
            Edges.due("the first", x.unrank(n, 0), n);
            for (int car = 1; car <= n; car++) {
                Edges.due("ones", x.told(car, 0), 1);
            }
            Edges.due("the last", x.unrank(n, x.rows(n) - 1), n);
            for (int car = 1; car <= n; car++) {
                Edges.due("falling", x.told(car, 0), n + 1 - car);
            }
        }
    }

    // "of k WISHES": none: the cars that were there are gone
    static void promise15OfNoWishes() {
        LaneWishes x = two();
        Edges.due("unrank(0, 0)", x.unrank(0, 0), 0);
        Edges.due("count(1)", x.count(1), 0);
        Edges.due("count(7)", x.count(7), 3);
    }

    // the new cars are of LENGTH 1, those that were long are gone
    static void promise15TheNewCarsAreShort() {
        LaneWishes x = two();
        x.unrank(2, 7);
        Edges.wishes(x, 3, 2);
        Edges.due("told(1, 1)", x.told(1, 1), 1);
        Edges.due("good()", x.good(), 1);
    }

    static void promise15NotStraight() {
        Edges.refused(NOT, () -> Made.road(1, 3, 0, 2), x -> x.unrank(3, 0));
        Edges.refused(NOT, () -> Made.road(2, 3, 0, 2), x -> x.unrank(3, 0));
        Edges.refused(NOT, () -> Made.road(1, 3, 0, 2), x -> x.unrank(0, 0));
    }

    // BAD is named ahead of NOT
    static void promise15BadAheadOfNot() {
        for (int kind = 1; kind < 3; kind++) {
            int someKind = kind;
            Edges.refused(BAD, () -> Made.road(someKind, 3, 0, 2), x -> x.unrank(4, 0));
            Edges.refused(BAD, () -> Made.road(someKind, 3, 0, 2), x -> x.unrank(-1, 0));
            Edges.refused(BAD, () -> Made.road(someKind, 3, 0, 2), x -> x.unrank(3, 16));
            Edges.refused(BAD, () -> Made.road(someKind, 3, 0, 2), x -> x.unrank(3, -1));
        }
    }

    // ---- Promise 16: next

    static void promise16NotPlain() {
        Edges.refusedInAll(NOT, Made.notPlain(), x -> x.next());
    }

    static void promise16NotGood() {
        Edges.refusedInAll(NOT, Made.notGood(), x -> x.next());
    }

    // "NONE: it is the last": of each length
    static void promise16TheLast() {
        for (int n = 1; n <= 10; n++) {
            int places = n;
            Edges.refused(NONE, () -> falling(places), x -> x.next());
        }
        Edges.refused(NONE, () -> Made.straight(5, 5, 4), x -> x.next());
        Edges.refused(NONE, () -> Made.straight(5, 5), x -> x.next());
    }

    // "NONE": the row of no cars is the only one
    static void promise16OfNoCars() {
        Edges.refused(NONE, () -> Made.straight(5), x -> x.next());
    }

    // the one ahead of the last has a next
    static void promise16TheLastButOne() {
        for (int n = 2; n <= 10; n++) {
            LaneWishes x = Made.straight(n);
            x.unrank(n, x.rows(n) - 2);
            Edges.due("next()", x.next(), 1);
            Edges.due("it is the last", x.next(), NONE);
            Edges.due("rank()", x.rank(), x.rows(n) - 1);
        }
    }

    // over an end: the cars behind begin with 1 again, and the places are theirs
    static void promise16OverAnEnd() {
        LaneWishes x = Made.straight(3, 1, 3, 2);
        Edges.due("next()", x.next(), 1);
        Edges.wishes(x, 2, 1, 1);
        Edges.places(x, 2, 1, 3);
    }

    // "(as many CARS)"
    static void promise16AsManyCars() {
        LaneWishes x = Made.straight(3, 1, 3);
        Edges.due("next()", x.next(), 1);
        Edges.wishes(x, 2, 1);
    }

    // ---- Promise 17: like

    static void promise17NotPlain() {
        Edges.refusedInAll(NOT, Made.notPlain(), x -> x.like());
    }

    static void promise17NotGood() {
        Edges.refusedInAll(NOT, Made.notGood(), x -> x.like());
    }

    // the most and the fewest of full rows; none on an empty road
    static void promise17TheMostAndTheFewest() {
        Edges.due("ones", ones(0, 10).like(), 3628800);
        Edges.due("falling", falling(10).like(), 1);
        Edges.due("no cars", Made.straight(10).like(), 1);
    }

    // a free place ahead ends the stretch; a place that is taken later does not count
    static void promise17JustTheFullStretchAhead() {
        Edges.due("a free place ahead", Made.straight(4, 1, 3, 3).like(), 2);
        Edges.due("taken later", Made.straight(4, 2, 1, 3).like(), 3);
    }

    // ---- Promise 18: orders

    static void promise18NotStraight() {
        Edges.refused(NOT, () -> Made.road(1, 3, 0, 1, 2), x -> x.orders());
        Edges.refused(NOT, () -> Made.road(2, 3, 0, 1, 2), x -> x.orders());
        Edges.refused(NOT, () -> Made.road(1, 3, 0), x -> x.orders());
    }

    // "(LENGTHS do not matter.)": neither whether all come in
    static void promise18LengthsDoNotMatter() {
        LaneWishes x = Made.withLength(Made.straight(3, 1, 2, 3), 1, 4);
        Edges.due("good()", x.good(), 0);
        Edges.due("orders()", x.orders(), 6);
    }

    // rows that are not GOOD have orders too
    static void promise18OfWishesThatAreNotGood() {
        Edges.due(Made.straight(3, 3, 3, 2).orders(), 3);
    }

    // all alike: one; all unlike: the most; no cars: one
    static void promise18TheFewestAndTheMost() {
        Edges.due("no cars", Made.straight(10).orders(), 1);
        Edges.due("one car", Made.straight(10, 7).orders(), 1);
        Edges.due("all alike", ones(0, 10).orders(), 1);
        Edges.due("all unlike", falling(10).orders(), 3628800);
    }

    // ---- Promise 19: rise

    // "how many CARS have another WISH": none, as there are no cars, or one, or it is rising
    static void promise19NoneChanges() {
        LaneWishes empty = Made.straight(5);
        Edges.due("no cars", empty.rise(), 0);
        Edges.due("no cars have come", empty.count(1), 0);
        Edges.due("one car", Made.straight(5, 5).rise(), 0);
        LaneWishes rising = Made.straight(5, 1, 2, 2, 5, 5);
        Edges.due("rising", rising.rise(), 0);
        Edges.wishes(rising, 1, 2, 2, 5, 5);
    }

    // all change; all but the one in the middle
    static void promise19AllChange() {
        LaneWishes ten = falling(10);
        Edges.due("ten", ten.rise(), 10);
        Edges.wishes(ten, 1, 2, 3, 4, 5, 6, 7, 8, 9, 10);
        Edges.due("five", falling(5).rise(), 4);
    }

    // those that move to a like wish do not change
    static void promise19LikeWishesDoNotChange() {
        LaneWishes x = Made.straight(4, 2, 2, 1, 2);
        Edges.due("rise()", x.rise(), 2);
        Edges.wishes(x, 1, 2, 2, 2);
    }

    // "(LENGTHS stay)": with the numbers, not with the wishes; on any road; and all come anew
    static void promise19LengthsStay() {
        LaneWishes x = Made.withLength(Made.road(1, 5, 0, 4, 1), 1, 2);
        Edges.due("rise()", x.rise(), 2);
        Edges.due("told(1, 1)", x.told(1, 1), 2);
        Edges.due("told(2, 1)", x.told(2, 1), 1);
        Edges.places(x, 1, 4);
        Edges.due("on(2)", x.on(2), 1);
    }

    // ---- Promise 20: risings

    static void promise20KBelow0() {
        Edges.refused(BAD, EdgesOfRowsTest::two, x -> x.risings(-1));
        Edges.refused(BAD, EdgesOfRowsTest::two, x -> x.risings(Edges.FAR_BELOW));
    }

    static void promise20KAboveN() {
        Edges.refused(BAD, EdgesOfRowsTest::two, x -> x.risings(4));
        Edges.refused(BAD, EdgesOfRowsTest::two, x -> x.risings(Edges.FAR));
        Edges.refused(BAD, () -> Made.straight(10), x -> x.risings(11));
    }

    static void promise20OfNoWishes() {
        for (int n = 1; n <= 10; n++) {
            Edges.due("risings(0) of " + n, Made.straight(n).risings(0), 1);
        }
    }

    static void promise20OfAsManyWishesAsPlaces() {
        long[] all = {1, 2, 5, 14, 42, 132, 429, 1430, 4862, 16796};
        for (int n = 1; n <= 10; n++) {
            Edges.due("risings(N) of " + n, Made.straight(n).risings(n), all[n - 1]);
            Edges.due("risings(N - 1) of " + n, Made.straight(n).risings(n - 1), n == 1 ? 1 : all[n - 1]);
        }
    }

    // "PLAIN": whatever the road and its cars are
    static void promise20PlainOnAnyRoad() {
        Edges.due("round", Made.road(1, 3, 0, 3, 3, 3).risings(3), 5);
        Edges.due("backing", Made.road(2, 3, 9, 3, 3, 3).risings(3), 5);
        Edges.due("long", two().risings(2), 5);
    }

    // ---- Promise 21: riseRank

    static void promise21NotPlain() {
        Edges.refusedInAll(NOT, Made.notPlain(), x -> x.riseRank());
    }

    static void promise21NotGood() {
        Edges.refusedInAll(NOT, Made.notGood(), x -> x.riseRank());
    }

    static void promise21NotRising() {
        Edges.refused(NOT, () -> Made.straight(3, 2, 1, 2), x -> x.riseRank());
        Edges.refused(NOT, () -> Made.straight(3, 1, 2, 1), x -> x.riseRank());
        Edges.refused(NOT, () -> Made.straight(2, 2, 1), x -> x.riseRank());
    }

    static void promise21TheFirstAndTheLast() {
        Edges.due("no cars", Made.straight(10).riseRank(), 0);
        for (int n = 1; n <= 10; n++) {
            Edges.due("ones", ones(0, n).riseRank(), 0);
            LaneWishes last = falling(n);
            last.rise();
            Edges.due("1, 2, .. N", last.riseRank(), last.risings(n) - 1);
        }
        Edges.due("fewer: the last", Made.straight(5, 4, 5).riseRank(), Made.straight(5).risings(2) - 1);
    }

    // ---- Promise 22: riseUnrank

    static void promise22KBelow0() {
        Edges.refused(BAD, EdgesOfRowsTest::two, x -> x.riseUnrank(-1, 0));
        Edges.refused(BAD, EdgesOfRowsTest::two, x -> x.riseUnrank(Edges.FAR_BELOW, 0));
    }

    static void promise22KAboveN() {
        Edges.refused(BAD, EdgesOfRowsTest::two, x -> x.riseUnrank(4, 0));
        Edges.refused(BAD, EdgesOfRowsTest::two, x -> x.riseUnrank(Edges.FAR, 0));
        Edges.refused(BAD, () -> Made.straight(10), x -> x.riseUnrank(11, 0));
    }

    static void promise22RBelow0() {
        Edges.refused(BAD, EdgesOfRowsTest::two, x -> x.riseUnrank(3, -1));
        Edges.refused(BAD, EdgesOfRowsTest::two, x -> x.riseUnrank(3, Long.MIN_VALUE));
        Edges.refused(BAD, EdgesOfRowsTest::two, x -> x.riseUnrank(0, -1));
    }

    static void promise22RBeyondTheLast() {
        Edges.refused(BAD, EdgesOfRowsTest::two, x -> x.riseUnrank(3, 5));
        Edges.refused(BAD, EdgesOfRowsTest::two, x -> x.riseUnrank(2, 5));
        Edges.refused(BAD, EdgesOfRowsTest::two, x -> x.riseUnrank(1, 3));
        Edges.refused(BAD, EdgesOfRowsTest::two, x -> x.riseUnrank(0, 1));
        Edges.refused(BAD, () -> Made.straight(10, 3), x -> x.riseUnrank(10, 16796));
        Edges.refused(BAD, EdgesOfRowsTest::two, x -> x.riseUnrank(3, Long.MAX_VALUE));
    }

    static void promise22RBeyondInts() {
        Edges.refused(BAD, EdgesOfRowsTest::two, x -> x.riseUnrank(3, BEYOND_INTS));
        Edges.refused(BAD, EdgesOfRowsTest::two, x -> x.riseUnrank(3, 3 * BEYOND_INTS + 2));
        Edges.refused(BAD, EdgesOfRowsTest::two, x -> x.riseUnrank(3, 2 - BEYOND_INTS));
    }

    static void promise22TheFirstAndTheLast() {
        for (int n = 1; n <= 10; n++) {
            LaneWishes x = Made.straight(n);
            Edges.due("the first", x.riseUnrank(n, 0), n);
            Edges.due("ones", x.rank(), 0);
            Edges.due("the last", x.riseUnrank(n, x.risings(n) - 1), n);
            for (int car = 1; car <= n; car++) {
                Edges.due("1, 2, .. N", x.told(car, 0), car);
            }
        }
    }

    static void promise22OfNoWishes() {
        LaneWishes x = two();
        Edges.due("riseUnrank(0, 0)", x.riseUnrank(0, 0), 0);
        Edges.due("count(1)", x.count(1), 0);
        Edges.due("count(7)", x.count(7), 3);
    }

    static void promise22TheNewCarsAreShort() {
        LaneWishes x = two();
        x.riseUnrank(2, 4);
        Edges.wishes(x, 2, 3);
        Edges.due("told(1, 1)", x.told(1, 1), 1);
        Edges.due("good()", x.good(), 1);
    }

    static void promise22NotStraight() {
        Edges.refused(NOT, () -> Made.road(1, 3, 0, 2), x -> x.riseUnrank(3, 0));
        Edges.refused(NOT, () -> Made.road(2, 3, 0, 2), x -> x.riseUnrank(3, 0));
        Edges.refused(NOT, () -> Made.road(1, 3, 0, 2), x -> x.riseUnrank(0, 0));
    }

    static void promise22BadAheadOfNot() {
        for (int kind = 1; kind < 3; kind++) {
            int someKind = kind;
            Edges.refused(BAD, () -> Made.road(someKind, 3, 0, 2), x -> x.riseUnrank(4, 0));
            Edges.refused(BAD, () -> Made.road(someKind, 3, 0, 2), x -> x.riseUnrank(-1, 0));
            Edges.refused(BAD, () -> Made.road(someKind, 3, 0, 2), x -> x.riseUnrank(3, 5));
            Edges.refused(BAD, () -> Made.road(someKind, 3, 0, 2), x -> x.riseUnrank(3, -1));
        }
    }

    // ---- Promise 23: cuts

    static void promise23NotPlain() {
        Edges.refusedInAll(NOT, Made.notPlain(), x -> x.cuts());
    }

    static void promise23NotGood() {
        Edges.refusedInAll(NOT, Made.notGood(), x -> x.cuts());
    }

    static void promise23NotNCars() {
        Edges.refusedInAll(NOT, Made.few(), x -> x.cuts());
    }

    // "PLACE i: bit i": all there are, none
    static void promise23EverywhereAndNowhere() {
        Edges.due("everywhere", falling(10).cuts(), 1022);
        Edges.due("nowhere", ones(0, 10).cuts(), 0);
        Edges.due("of two places", falling(2).cuts(), 2);
    }

    // ---- Promise 24: primes

    // "of N WISHES": the shortest road, the longest; on any road, with any cars
    static void promise24TheShortestAndTheLongestRoad() {
        Edges.due("of 1", Made.straight(1).primes(), 1);
        Edges.due("of 2", Made.straight(2).primes(), 1);
        Edges.due("of 10", Made.straight(10).primes(), 387420489);
        Edges.due("round", Made.road(1, 3, 0, 3, 3).primes(), 4);
        Edges.due("backing", Made.road(2, 3, 9, 3, 3).primes(), 4);
        Edges.due("long", two().primes(), 4);
    }

    // ---- Promise 25: mend

    static void promise25NotPlain() {
        Edges.refused(NOT, () -> Made.road(1, 3, 0, 3, 3, 3), x -> x.mend());
        Edges.refused(NOT, () -> Made.road(2, 3, 0, 3, 3, 3), x -> x.mend());
        Edges.refused(NOT, () -> Made.withLength(Made.straight(3, 3, 3, 3), 3, 2), x -> x.mend());
    }

    static void promise25NotNCars() {
        Edges.refused(NOT, () -> Made.straight(3, 3, 3), x -> x.mend());
        Edges.refused(NOT, () -> Made.straight(3), x -> x.mend());
    }

    // a GOOD row needs none
    static void promise25NoneOfAGoodRow() {
        LaneWishes x = Made.straight(4, 4, 2, 1, 2);
        Edges.due("mend()", x.mend(), 0);
        Edges.wishes(x, 4, 2, 1, 2);
        Edges.due("one place", Made.straight(1, 1).mend(), 0);
    }

    // all wish the last place: all but the first car must
    static void promise25TheMost() {
        for (int n = 2; n <= 10; n++) {
            LaneWishes x = Made.straight(n);
            while (x.car(n) > 0) {
                continue;
            }
            Edges.due("mend()", x.mend(), n - 1);
            Edges.due("the first stays", x.told(1, 0), n);
            Edges.due("the second wishes 1", x.told(2, 0), 1);
            Edges.due("the last wishes 1", x.told(n, 0), 1);
            Edges.due("good()", x.good(), 1);
        }
    }

    // "the fewest": one wish too great, at the first place and at the last but one
    static void promise25JustOne() {
        LaneWishes none = Made.straight(4, 2, 3, 4, 2);
        Edges.due("none wishes 1", none.mend(), 1);
        Edges.wishes(none, 2, 3, 1, 2);
        LaneWishes last = Made.straight(4, 4, 1, 2, 4);
        Edges.due("two wish the last", last.mend(), 1);
        Edges.wishes(last, 4, 1, 2, 1);
        Edges.places(last, 4, 1, 2, 3);
    }
}
