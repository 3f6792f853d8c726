import java.util.ArrayList;
import java.util.List;

/** Asks an object for all that can be seen of its state; uses the object up, in fewer than 400 calls. */
final class Probe {
    private Probe() {
    }

    static List<Long> answers(LaneWishes x) {
        List<Long> answers = new ArrayList<>();
        cars(x, answers);
        kind(x, answers);
        for (int sheet = 0; sheet < 4; sheet++) {
            sheet(x, sheet, answers);
        }
        return answers;
    }

    private static void cars(LaneWishes x, List<Long> answers) {
        for (int what = 0; what < 8; what++) {
            answers.add((long) x.count(what));
        }
        for (int car = 1; car <= x.count(1); car++) {
            for (int what = 0; what < 5; what++) {
                answers.add((long) x.told(car, what));
            }
        }
        for (int place = 1; place <= x.count(0); place++) {
            answers.add((long) x.on(place));
        }
        answers.add(x.rank());
    }

    /** All cars wish the last place: where they come to tells the kind of road and how far they back. */
    private static void kind(LaneWishes x, List<Long> answers) {
        x.clear();
        answers.add(x.orders());
        int n = x.count(0);
        for (int car = 1; car <= n; car++) {
            x.car(n);
            answers.add((long) x.told(car, 2));
        }
    }

    private static void sheet(LaneWishes x, int sheet, List<Long> answers) {
        x.road(0, 10, 0);
        for (int lane = 0; lane < 3; lane++) {
            int kept = x.keep(sheet, lane, 0);
            answers.add((long) kept);
            for (int i = 0; kept == 0 && i < 20; i++) {
                // no more than 10 cars fit: items that are no place or are missing bring none
                if (i == 10) {
                    x.clear();
                }
                answers.add((long) x.cars(sheet, lane, i, 1));
                answers.add((long) x.told(x.count(1), 0));
            }
            x.clear();
        }
        answers.add((long) x.drop(sheet));
    }
}
