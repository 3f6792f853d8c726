/** The sentences of the document that name an edge, of 'Terms' 4 and promise 34: each has a test of its own. */
public final class EdgesOfSpreadsTest {
    private static final int BAD = Edges.BAD;

    public static void main(String[] args) throws ReflectiveOperationException {
        Edges.runAll(EdgesOfSpreadsTest.class);
    }

    private static LaneWishes three() {
        return Made.road(2, 4, 1, 4, 4, 4);
    }

    private static long factorial(int n) {
        return n <= 1 ? 1 : n * factorial(n - 1);
    }

    private static long power(int base, int exponent) {
        return exponent == 0 ? 1 : base * power(base, exponent - 1);
    }

    /** Of all n the least and the greatest v that have rows, with how many, and none just beyond them. */
    private static void ends(int what, int n, int least, long ofLeast, int greatest, long ofGreatest) {
        LaneWishes x = new LaneWishes();
        String told = "spread(" + what + ", " + n + ", ";
        Edges.due(told + "one less)", x.spread(what, n, least - 1), 0);
        Edges.due(told + "least)", x.spread(what, n, least), ofLeast);
        Edges.due(told + "greatest)", x.spread(what, n, greatest), ofGreatest);
        Edges.due(told + "one more)", x.spread(what, n, greatest + 1), 0);
    }

    // "0 with GOES v of all CARS together": none, if no two wish alike; the most, if all wish 1
    static void term4GoesNoneAndTheMost() {
        for (int n = 1; n <= 10; n++) {
            ends(0, n, 0, factorial(n), n * (n - 1) / 2, 1);
        }
    }

    // "1 with v LUCKY CARS": the first car always is; all
    static void term4OneLuckyAndAll() {
        for (int n = 1; n <= 10; n++) {
            ends(1, n, 1, factorial(n - 1), n, factorial(n));
        }
    }

    // "2 with the last CAR AT v": at 1, at n
    static void term4TheLastCarAtTheFirstPlaceAndAtTheLast() {
        for (int n = 1; n <= 10; n++) {
            ends(2, n, 1, n == 1 ? 1 : power(n, n - 2), n, power(n, n - 1));
        }
    }

    // "3 with v as the first WISH": 1, n
    static void term4TheFirstWishOneAndTheLast() {
        long[] ofOne = {1, 2, 8, 50, 432, 4802, 65536, 1062882, 20000000, 428717762};
        for (int n = 1; n <= 10; n++) {
            ends(3, n, 1, ofOne[n - 1], n, n == 1 ? 1 : power(n, n - 2));
        }
    }

    // "4 with v CARS that wish 1": there is always one; all
    static void term4OneWishesOneAndAll() {
        for (int n = 1; n <= 10; n++) {
            ends(4, n, 1, power(n, n - 1), n, 1);
        }
    }

    // "5 CUT at v PLACES": nowhere; at all n - 1
    static void term4CutNowhereAndEverywhere() {
        for (int n = 1; n <= 10; n++) {
            ends(5, n, 0, power(n - 1, n - 1), n - 1, factorial(n));
        }
    }

    // "PLAIN": whatever the road is
    static void term4WhateverTheRoadIs() {
        Edges.refused(6, EdgesOfSpreadsTest::three, x -> x.spread(0, 3, 0));
        Edges.refused(3628800, () -> Made.road(1, 1, 0), x -> x.spread(0, 10, 0));
        Edges.refused(3628800, LaneWishes::new, x -> x.spread(1, 10, 10));
    }

    static void promise34WhatBelow0() {
        Edges.refused(BAD, EdgesOfSpreadsTest::three, x -> x.spread(-1, 3, 1));
        Edges.refused(BAD, EdgesOfSpreadsTest::three, x -> x.spread(Edges.FAR_BELOW, 3, 1));
    }

    static void promise34WhatAbove5() {
        Edges.refused(BAD, EdgesOfSpreadsTest::three, x -> x.spread(6, 3, 1));
        Edges.refused(BAD, EdgesOfSpreadsTest::three, x -> x.spread(Edges.FAR, 3, 1));
    }

    static void promise34NBelow1() {
        for (int what = 0; what < 6; what++) {
            int someWhat = what;
            Edges.refused(BAD, EdgesOfSpreadsTest::three, x -> x.spread(someWhat, 0, 1));
            Edges.refused(BAD, EdgesOfSpreadsTest::three, x -> x.spread(someWhat, Edges.FAR_BELOW, 1));
        }
    }

    static void promise34NAbove10() {
        for (int what = 0; what < 6; what++) {
            int someWhat = what;
            Edges.refused(BAD, EdgesOfSpreadsTest::three, x -> x.spread(someWhat, 11, 1));
            Edges.refused(BAD, EdgesOfSpreadsTest::three, x -> x.spread(someWhat, Edges.FAR, 1));
        }
    }

    // "BAD: what, n": v is never BAD, and never saves a wrong what or n
    static void promise34BadWhateverVIs() {
        int[] any = {-1, 0, 1, Edges.FAR, Edges.FAR_BELOW};
        LaneWishes x = new LaneWishes();
        for (int v : any) {
            Edges.due("what", x.spread(6, 5, v), BAD);
            Edges.due("n", x.spread(5, 11, v), BAD);
        }
    }

    // "(0 where there are none.)"
    static void promise34NoneFarOff() {
        int[] far = {-1, -2, 46, 47, 1000, Edges.FAR, Edges.FAR - 1, Edges.FAR_BELOW, Edges.FAR_BELOW + 1};
        LaneWishes x = new LaneWishes();
        for (int what = 0; what < 6; what++) {
            for (int v : far) {
                Edges.due("spread(" + what + ", 10, " + v + ")", x.spread(what, 10, v), 0);
                Edges.due("spread(" + what + ", 1, " + v + ")", x.spread(what, 1, v), 0);
            }
        }
    }

    // a short one asked behind a long one, and a long one behind a short one, are the same
    static void promise34InAnyOrder() {
        LaneWishes up = new LaneWishes();
        LaneWishes down = new LaneWishes();
        for (int what = 0; what < 6; what++) {
            long[] first = new long[11];
            for (int n = 1; n <= 10; n++) {
                first[n] = up.spread(what, n, 1);
            }
            for (int n = 10; n >= 1; n--) {
                Edges.due("spread(" + what + ", " + n + ", 1)", down.spread(what, n, 1), first[n]);
            }
        }
    }

    // asked again it is the same
    static void promise34AskedAgain() {
        LaneWishes x = new LaneWishes();
        long[] of = {6, 2, 3, 8, 9, 4};
        for (int time = 0; time < 3; time++) {
            for (int what = 0; what < 6; what++) {
                int v = what == 0 || what == 5 ? 0 : 1;
                Edges.due("spread(" + what + ", 3, " + v + ")", x.spread(what, 3, v), of[what]);
            }
        }
    }

    // beyond ints: exactly
    static void promise34BeyondInts() {
        LaneWishes x = new LaneWishes();
        long all = 0;
        for (int v = 1; v <= 10; v++) {
            all += x.spread(1, 10, v);
        }
        Edges.due("all rows of ten", all, 2357947691L);
    }
}
