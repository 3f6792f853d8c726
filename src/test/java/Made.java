/** Objects that the tests begin with. */
final class Made {
    private Made() {
    }

    static LaneWishes road(int kind, int n, int b, int... wishes) {
        LaneWishes x = new LaneWishes();
        x.road(kind, n, b);
        for (int wish : wishes) {
            x.car(wish);
        }
        return x;
    }

    /** Rows that are not PLAIN, or not GOOD, or both: three cars or two on roads of three places. */
    static LaneWishes[] notPlainGood() {
        LaneWishes isLong = road(0, 3, 0, 1, 1, 1);
        isLong.length(3, 2);
        LaneWishes longAndGood = road(0, 3, 0, 1, 2);
        longAndGood.length(2, 2);
        return new LaneWishes[] {road(1, 3, 0, 1, 1, 1), road(2, 3, 1, 1, 1, 1), road(0, 3, 0, 3, 3, 3), isLong, longAndGood};
    }
}
