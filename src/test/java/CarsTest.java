/** Promises 1 to 12: the road, its cars, who comes in. */
public final class CarsTest {
    private static final Check CHECK = new Check();
    private static final int BAD = -1, NOT = -2, FULL = -3, NONE = -4;

    public static void main(String[] args) {
        constants();
        aNewObject();
        roads();
        cars();
        wishesAndLengths();
        undoAndClear();
        straight();
        round();
        backing();
        longCars();
        ways();
        CHECK.end("CarsTest");
    }

    private static void constants() {
        CHECK.due("BAD", LaneWishes.BAD, -1);
        CHECK.due("NOT", LaneWishes.NOT, -2);
        CHECK.due("FULL", LaneWishes.FULL, -3);
        CHECK.due("NONE", LaneWishes.NONE, -4);
        CHECK.due("NULL", LaneWishes.NULL, -11);
        CHECK.due("CAST", LaneWishes.CAST, -12);
        CHECK.due("INDEX", LaneWishes.INDEX, -13);
        CHECK.due("SIZE", LaneWishes.SIZE, -14);
    }

    private static void aNewObject() {
        LaneWishes x = new LaneWishes();
        long[] counts = {5, 0, 0, 0, 0, 0, 0, 5};
        for (int what = 0; what < 8; what++) {
            CHECK.due("new: count(" + what + ")", x.count(what), counts[what]);
        }
        CHECK.due("new: count(8)", x.count(8), BAD);
        CHECK.due("new: count(-1)", x.count(-1), BAD);
        CHECK.due("new: good()", x.good(), 1);
        CHECK.due("new: rank() as on a straight road", x.rank(), 0);
        CHECK.due("new: orders()", x.orders(), 1);
        for (int sheet = 0; sheet < 4; sheet++) {
            CHECK.due("new: drop", x.drop(sheet), LaneWishes.NULL);
        }
        LaneWishes other = new LaneWishes();
        x.car(2);
        CHECK.due("objects share no cars", other.count(1), 0);
    }

    private static void roads() {
        LaneWishes x = new LaneWishes();
        x.car(3);
        int[][] wrong = {{-1, 5, 0}, {3, 5, 0}, {0, 0, 0}, {0, 11, 0}, {0, -1, 0}, {2, 5, -1}, {2, 5, 10},
            {Integer.MIN_VALUE, 5, 0}, {0, Integer.MAX_VALUE, 0}};
        for (int[] w : wrong) {
            CHECK.due("road of wrong numbers", x.road(w[0], w[1], w[2]), BAD);
            CHECK.due("a refused road changes nothing", x.count(0) * 10 + x.count(1), 51);
        }
        CHECK.due("b counts for BACKING alone", x.road(0, 7, 99), 1);
        CHECK.due("b counts for BACKING alone", x.road(1, 7, -5), 1);
        for (int kind = 0; kind < 3; kind++) {
            for (int n = 1; n <= 10; n++) {
                x.car(1);
                CHECK.due("road", x.road(kind, n, 9), 1);
                CHECK.due("road: N", x.count(0), n);
                CHECK.due("road: no cars", x.count(1), 0);
                CHECK.due("road: all free", x.count(7), n);
                CHECK.due("road: kind", x.orders(), kind == 0 ? 1 : NOT);
            }
        }
    }

    private static void cars() {
        LaneWishes x = new LaneWishes();
        CHECK.due("car(0)", x.car(0), BAD);
        CHECK.due("car(6)", x.car(6), BAD);
        for (int i = 1; i <= 5; i++) {
            CHECK.due("car", x.car(i), i);
        }
        CHECK.due("car on a full road", x.car(1), FULL);
        CHECK.due("a wrong wish on a full road", x.car(6), BAD);
        CHECK.due("a refused car does not come", x.count(1), 5);
    }

    private static void wishesAndLengths() {
        LaneWishes x = new LaneWishes();
        CHECK.due("wish of no car", x.wish(1, 1), BAD);
        CHECK.due("length of no car", x.length(1, 1), BAD);
        x.car(2);
        x.car(4);
        CHECK.due("wish", x.wish(2, 5), 4);
        CHECK.due("wish again", x.wish(2, 1), 5);
        CHECK.due("wish told", x.told(2, 0), 1);
        CHECK.due("place told", x.told(2, 2), 1);
        CHECK.due("the other's wish", x.told(1, 0), 2);
        int[][] wrong = {{0, 1}, {3, 1}, {1, 0}, {-1, 1}};
        for (int[] w : wrong) {
            CHECK.due("wrong wish", x.wish(w[0], w[1]), BAD);
            CHECK.due("wrong length", x.length(w[0], w[1]), BAD);
        }
        CHECK.due("wish 6 of 5", x.wish(1, 6), BAD);
        CHECK.due("length 5", x.length(1, 5), BAD);
        CHECK.due("length", x.length(1, 4), 1);
        CHECK.due("length again", x.length(1, 3), 4);
        CHECK.due("length told", x.told(1, 1), 3);
        CHECK.due("the other's length", x.told(2, 1), 1);
        CHECK.due("what -1", x.told(1, -1), BAD);
        CHECK.due("what 5", x.told(1, 5), BAD);
        CHECK.due("car 0", x.told(0, 0), BAD);
        CHECK.due("car 3", x.told(3, 0), BAD);
    }

    private static void undoAndClear() {
        LaneWishes x = new LaneWishes();
        CHECK.due("undo of none", x.undo(), NOT);
        CHECK.due("clear of none", x.clear(), 0);
        x.car(1);
        x.car(1);
        x.length(2, 3);
        CHECK.due("undo", x.undo(), 1);
        CHECK.due("its places are free", x.count(7), 4);
        CHECK.due("a new car behind undo", x.car(1), 2);
        CHECK.due("is of length 1", x.told(2, 1), 1);
        CHECK.due("clear", x.clear(), 2);
        CHECK.due("all free behind clear", x.count(7), 5);
        CHECK.due("on(1) behind clear", x.on(1), NONE);
        x.car(5);
        CHECK.due("length behind clear", x.told(1, 1), 1);
    }

    /** Of each car: its place, how far it goes, whether it is lucky; then who is on each place. */
    private static void stand(String told, LaneWishes x, int[] at, int[] far, int[] on) {
        int in = 0, lucky = 0, all = 0, most = 0, free = 0;
        for (int c = 1; c <= at.length; c++) {
            CHECK.due(told + ": place of " + c, x.told(c, 2), at[c - 1]);
            CHECK.due(told + ": far of " + c, x.told(c, 3), far[c - 1]);
            CHECK.due(told + ": luck of " + c, x.told(c, 4), far[c - 1] == 0 ? 1 : 0);
            in += at[c - 1] == NONE ? 0 : 1;
            lucky += far[c - 1] == 0 ? 1 : 0;
            all += Math.max(0, far[c - 1]);
            most = Math.max(most, far[c - 1]);
        }
        for (int p = 1; p <= on.length; p++) {
            CHECK.due(told + ": on " + p, x.on(p), on[p - 1]);
            free += on[p - 1] == NONE ? 1 : 0;
        }
        CHECK.due(told + ": on 0", x.on(0), BAD);
        CHECK.due(told + ": on N + 1", x.on(on.length + 1), BAD);
        long[] counts = {on.length, at.length, in, at.length - in, lucky, all, most, free};
        for (int what = 0; what < 8; what++) {
            CHECK.due(told + ": count(" + what + ")", x.count(what), counts[what]);
        }
        CHECK.due(told + ": good", x.good(), in == at.length ? 1 : 0);
    }

    private static void straight() {
        stand("straight", Made.road(0, 5, 0, 3, 3, 3, 3), new int[] {3, 4, 5, NONE}, new int[] {0, 1, 2, NONE},
            new int[] {NONE, NONE, 1, 2, 3});
        stand("straight, all in", Made.road(0, 4, 0, 2, 1, 1, 1), new int[] {2, 1, 3, 4}, new int[] {0, 0, 2, 3},
            new int[] {2, 1, 3, 4});
        stand("one place", Made.road(0, 1, 0, 1), new int[] {1}, new int[] {0}, new int[] {1});
    }

    private static void round() {
        stand("round", Made.road(1, 5, 0, 4, 4, 4, 5), new int[] {4, 5, 1, 2}, new int[] {0, 1, 2, 2},
            new int[] {3, 4, NONE, 1, 2});
        stand("round, to the place ahead", Made.road(1, 3, 0, 3, 1, 3), new int[] {3, 1, 2}, new int[] {0, 0, 2},
            new int[] {2, 3, 1});
    }

    private static void backing() {
        stand("backing by 0", Made.road(2, 5, 0, 3, 3), new int[] {3, 4}, new int[] {0, 1},
            new int[] {NONE, NONE, 1, 2, NONE});
        stand("backing by 1", Made.road(2, 5, 1, 3, 3, 3, 3), new int[] {3, 2, 4, 5}, new int[] {0, 1, 1, 2},
            new int[] {NONE, 2, 1, 3, 4});
        stand("backing by 9, not beyond 1", Made.road(2, 4, 9, 2, 2, 2, 2), new int[] {2, 1, 3, 4}, new int[] {0, 1, 1, 2},
            new int[] {2, 1, 3, 4});
        stand("backing to the end", Made.road(2, 3, 9, 3, 3, 3), new int[] {3, 2, 1}, new int[] {0, 1, 2},
            new int[] {3, 2, 1});
        stand("backing, then none", Made.road(2, 3, 1, 3, 3, 3), new int[] {3, 2, NONE}, new int[] {0, 1, NONE},
            new int[] {NONE, 2, 1});
    }

    private static void longCars() {
        LaneWishes x = Made.road(0, 6, 0, 2, 2, 1);
        x.length(1, 3);
        stand("long", x, new int[] {2, 5, 1}, new int[] {0, 3, 0}, new int[] {3, 1, 1, 1, 2, NONE});
        x.length(2, 2);
        stand("long, just to N", x, new int[] {2, 5, 1}, new int[] {0, 3, 0}, new int[] {3, 1, 1, 1, 2, 2});
        x.length(2, 3);
        stand("long, beyond N", x, new int[] {2, NONE, 1}, new int[] {0, NONE, 0}, new int[] {3, 1, 1, 1, NONE, NONE});
        x.length(2, 1);
        x.length(3, 2);
        stand("the first free place counts", x, new int[] {2, 5, NONE}, new int[] {0, 3, NONE},
            new int[] {NONE, 1, 1, 1, 2, NONE});

        LaneWishes r = Made.road(1, 4, 0, 4, 4);
        r.length(1, 2);
        r.length(2, 2);
        stand("long round", r, new int[] {4, 2}, new int[] {0, 2}, new int[] {1, 2, 2, 1});
        r.length(2, 3);
        stand("long round, itself in the way", r, new int[] {4, NONE}, new int[] {0, NONE}, new int[] {1, NONE, NONE, 1});
        r.length(1, 4);
        stand("all round", r, new int[] {4, NONE}, new int[] {0, NONE}, new int[] {1, 1, 1, 1});
        LaneWishes s = Made.road(1, 3, 0, 2);
        s.length(1, 4);
        stand("longer than a round road", s, new int[] {NONE}, new int[] {NONE}, new int[] {NONE, NONE, NONE});
        s.length(1, 3);
        stand("as long as a round road", s, new int[] {2}, new int[] {0}, new int[] {1, 1, 1});

        LaneWishes b = Made.road(2, 5, 2, 3, 3, 5);
        b.length(2, 2);
        stand("a long one that backs has no room", b, new int[] {3, NONE, 5}, new int[] {0, NONE, 0},
            new int[] {NONE, NONE, 1, NONE, 3});
    }

    private static void ways() {
        CHECK.due("ways of no cars", Made.road(0, 10, 0).ways(), 1);
        CHECK.due("ways straight", Made.road(0, 3, 0, 3, 3, 3).ways(), 16);
        CHECK.due("ways round", Made.road(1, 3, 0, 1, 1, 1).ways(), 27);
        CHECK.due("ways backing all", Made.road(2, 2, 1, 1, 1).ways(), 4);
        CHECK.due("ways of 100000", Made.road(0, 10, 0, 1, 1, 1, 1, 1).ways(), 6 * 14641);
        CHECK.due("ways of 100000 round", Made.road(1, 10, 0, 1, 1, 1, 1, 1).ways(), 100000);
        CHECK.due("ways of 1000000", Made.road(0, 10, 0, 1, 1, 1, 1, 1, 1).ways(), NOT);
        CHECK.due("ways of 9^5", Made.road(1, 9, 0, 1, 1, 1, 1, 1).ways(), 59049);
        CHECK.due("ways of 7^6", Made.road(1, 7, 0, 1, 1, 1, 1, 1, 1).ways(), NOT);
        CHECK.due("ways of 6^6", Made.road(1, 6, 0, 1, 1, 1, 1, 1, 1).ways(), 46656);
        CHECK.due("ways of 10^10", Made.road(1, 10, 0, 1, 1, 1, 1, 1, 1, 1, 1, 1, 1).ways(), NOT);
        LaneWishes x = Made.road(0, 3, 0, 1, 1);
        x.length(2, 2);
        // wishes 1 1, 1 2, 3 1, and no other: 2 x leaves two places that are not side by side
        CHECK.due("ways of a long car", x.ways(), 3);
        CHECK.due("ways changes nothing", x.told(2, 2) * 10 + x.count(7), 20);
    }
}
