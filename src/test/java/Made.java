import java.util.List;
import java.util.function.Supplier;

/** Objects that the tests begin with. */
final class Made {
    private Made() {
    }

    static LaneWishes road(int kind, int n, int b, int... wishes) {
        LaneWishes x = new LaneWishes();
        x.road(kind, n, b);
        for (int wish : wishes) {
            x.car(wish);
        }
        return x;
    }

    static LaneWishes straight(int n, int... wishes) {
        return road(0, n, 0, wishes);
    }

    static LaneWishes withLength(LaneWishes x, int car, int length) {
        x.length(car, length);
        return x;
    }

    static LaneWishes onSheet(LaneWishes x, int sheet, int lane, int... items) {
        x.sheet(sheet, lane, items.length);
        for (int i = 0; i < items.length; i++) {
            x.item(sheet, lane, i, items[i]);
        }
        return x;
    }

    /** GOOD and not PLAIN; BACKING by 0 drives as STRAIGHT does, and is none. */
    static List<Supplier<LaneWishes>> notPlain() {
        return List.of(
            () -> road(1, 3, 0, 1, 1, 1),
            () -> road(2, 3, 0, 1, 1, 1),
            () -> road(2, 3, 9, 1, 2, 3),
            () -> withLength(straight(3, 1, 2), 2, 2));
    }

    /** PLAIN and not GOOD, of N CARS and of fewer. */
    static List<Supplier<LaneWishes>> notGood() {
        return List.of(() -> straight(3, 3, 3, 3), () -> straight(3, 2, 3, 2), () -> straight(3, 3, 3));
    }

    /** PLAIN and GOOD, of less than N CARS. */
    static List<Supplier<LaneWishes>> few() {
        return List.of(() -> straight(3, 1, 2), () -> straight(3), () -> straight(1));
    }

    /** Rows that are not PLAIN, or not GOOD, or both: three cars or two on roads of three places. */
    static LaneWishes[] notPlainGood() {
        LaneWishes isLong = road(0, 3, 0, 1, 1, 1);
        isLong.length(3, 2);
        LaneWishes longAndGood = road(0, 3, 0, 1, 2);
        longAndGood.length(2, 2);
        return new LaneWishes[] {road(1, 3, 0, 1, 1, 1), road(2, 3, 1, 1, 1, 1), road(0, 3, 0, 3, 3, 3), isLong, longAndGood};
    }
}
