/** Promises 35 to 39: sheets of rows that may be missing. */
public final class SheetsTest {
    private static final Check CHECK = new Check();
    private static final int BAD = -1, NOT = -2, FULL = -3, NULL = -11, CAST = -12, INDEX = -13, SIZE = -14;

    public static void main(String[] args) {
        sheets();
        items();
        lowestBits();
        cars();
        keep();
        CHECK.end("SheetsTest");
    }

    private static void sheets() {
        LaneWishes x = new LaneWishes();
        int[][] bad = {{-1, 0, 1}, {4, 0, 1}, {0, -1, 1}, {0, 3, 1}, {0, 0, 21}, {4, 0, -1}, {0, 3, -1},
            {0, 0, Integer.MAX_VALUE}};
        for (int[] b : bad) {
            CHECK.due("sheet of wrong numbers", x.sheet(b[0], b[1], b[2]), BAD);
        }
        CHECK.due("n below 0", x.sheet(0, 0, -1), SIZE);
        CHECK.due("n far below 0", x.sheet(0, 0, Integer.MIN_VALUE), SIZE);
        CHECK.due("refused sheets hold nothing", x.drop(0), NULL);
        for (int sheet = 0; sheet < 4; sheet++) {
            for (int lane = 0; lane < 3; lane++) {
                CHECK.due("drop of nothing", x.drop(sheet), NULL);
                CHECK.due("sheet of 20", x.sheet(sheet, lane, 20), 20);
                CHECK.due("sheet of 0", x.sheet(sheet, lane, 0), 0);
                CHECK.due("drop of 0", x.drop(sheet), 0);
                CHECK.due("sheet of 7", x.sheet(sheet, lane, 7), 7);
                CHECK.due("refused, it stays", x.sheet(sheet, lane, -7), SIZE);
                CHECK.due("drop of 7", x.drop(sheet), 7);
            }
        }
        CHECK.due("drop(-1)", x.drop(-1), BAD);
        CHECK.due("drop(4)", x.drop(4), BAD);
    }

    private static void items() {
        LaneWishes x = new LaneWishes();
        CHECK.due("item of nothing", x.item(2, 1, 0, 5), NULL);
        CHECK.due("item of nothing, far off", x.item(2, 1, -9, 5), NULL);
        x.sheet(2, 1, 3);
        int[][] bad = {{-1, 1, 0}, {4, 1, 0}, {2, -1, 0}, {2, 3, 0}};
        for (int[] b : bad) {
            CHECK.due("item of wrong numbers", x.item(b[0], b[1], b[2], 5), BAD);
        }
        CHECK.due("another lane", x.item(2, 0, 0, 5), CAST);
        CHECK.due("another lane, far off", x.item(2, 2, 99, 5), CAST);
        CHECK.due("item -1", x.item(2, 1, -1, 5), INDEX);
        CHECK.due("item 3", x.item(2, 1, 3, 5), INDEX);
        CHECK.due("item of the greatest", x.item(2, 1, Integer.MAX_VALUE, 5), INDEX);
        CHECK.due("item of the least", x.item(2, 1, Integer.MIN_VALUE, 5), INDEX);
        CHECK.due("item 2", x.item(2, 1, 2, 5), 1);
        CHECK.due("items are 0 at first", x.cars(2, 1, 0, 1), NOT);
        CHECK.due("an item's value", x.cars(2, 1, 2, 1), 1);
        x.sheet(2, 1, 3);
        CHECK.due("a new row is of zeros", x.cars(2, 1, 2, 1), NOT);
        x.sheet(3, 1, 0);
        CHECK.due("item of none", x.item(3, 1, 0, 1), INDEX);
    }

    private static void lowestBits() {
        LaneWishes x = new LaneWishes();
        int[] values = {256 + 3, 65536 + 3, 3, -253, -65533, Integer.MIN_VALUE + 3, 128, 32768, 255};
        boolean[][] three = {
            {true, true, true, true, true, true, false, false, false},
            {false, true, true, false, true, true, false, false, false},
            {false, false, true, false, false, false, false, false, false}};
        for (int lane = 0; lane < 3; lane++) {
            x.sheet(0, lane, 1);
            for (int i = 0; i < values.length; i++) {
                x.clear();
                CHECK.due("item", x.item(0, lane, 0, values[i]), 1);
                CHECK.due("lane " + lane + " of " + values[i], x.cars(0, lane, 0, 1), three[lane][i] ? 1 : NOT);
                CHECK.due("its wish", x.told(1, 0), three[lane][i] ? 3 : BAD);
            }
        }
    }

    private static void cars() {
        LaneWishes x = new LaneWishes();
        CHECK.due("cars of nothing", x.cars(1, 0, 0, 0), NULL);
        x.sheet(1, 0, 6);
        int[] items = {5, 2, 2, 6, 0, 1};
        for (int i = 0; i < 6; i++) {
            x.item(1, 0, i, items[i]);
        }
        int[][] bad = {{-1, 0, 0, 1}, {4, 0, 0, 1}, {1, -1, 0, 1}, {1, 3, 0, 1}, {1, 0, 0, -1}, {1, 0, 0, 11}, {0, 0, 0, 11}};
        for (int[] b : bad) {
            CHECK.due("cars of wrong numbers", x.cars(b[0], b[1], b[2], b[3]), BAD);
        }
        CHECK.due("another lane", x.cars(1, 1, 99, 1), CAST);
        CHECK.due("from -1", x.cars(1, 0, -1, 1), INDEX);
        CHECK.due("too many", x.cars(1, 0, 0, 7), INDEX);
        CHECK.due("beyond the end", x.cars(1, 0, 5, 2), INDEX);
        CHECK.due("far beyond", x.cars(1, 0, Integer.MAX_VALUE, 10), INDEX);
        CHECK.due("6 is no place", x.cars(1, 0, 1, 3), NOT);
        CHECK.due("0 is no place", x.cars(1, 0, 4, 2), NOT);
        CHECK.due("none came", x.count(1), 0);
        CHECK.due("none asked", x.cars(1, 0, 0, 0), 0);
        CHECK.due("none asked at the end", x.cars(1, 0, 6, 0), 0);
        CHECK.due("none asked beyond the end", x.cars(1, 0, 7, 0), INDEX);
        CHECK.due("none asked ahead", x.cars(1, 0, -1, 0), INDEX);
        CHECK.due("three", x.cars(1, 0, 0, 3), 3);
        CHECK.due("they stand", x.told(3, 2), 3);
        CHECK.due("three more are too many", x.cars(1, 0, 0, 3), FULL);
        CHECK.due("no place is named first", x.cars(1, 0, 1, 3), NOT);
        CHECK.due("refused, none comes", x.count(1), 3);
        x.length(1, 2);
        CHECK.due("two more", x.cars(1, 0, 1, 2), 5);
        int[] wishes = {5, 2, 2, 2, 2};
        for (int c = 1; c <= 5; c++) {
            CHECK.due("wish of " + c, x.told(c, 0), wishes[c - 1]);
            CHECK.due("length of " + c, x.told(c, 1), c == 1 ? 2 : 1);
        }
        CHECK.due("one more", x.cars(1, 0, 5, 1), FULL);
        CHECK.due("none more", x.cars(1, 0, 5, 0), 5);
        x.road(1, 6, 0);
        CHECK.due("on a longer road 6 is a place", x.cars(1, 0, 0, 4), 4);
    }

    private static void keep() {
        LaneWishes x = new LaneWishes();
        CHECK.due("keep on nothing", x.keep(3, 2, 0), NULL);
        CHECK.due("keep on no sheet", x.keep(4, 2, 0), BAD);
        CHECK.due("keep on sheet -1", x.keep(-1, 2, 0), BAD);
        CHECK.due("keep of no lane", x.keep(3, 3, 0), BAD);
        x.sheet(3, 2, 4);
        CHECK.due("keep of no cars", x.keep(3, 2, 0), 0);
        CHECK.due("keep of no cars at the end", x.keep(3, 2, 4), 0);
        CHECK.due("keep of no cars beyond", x.keep(3, 2, 5), INDEX);
        x.car(4);
        x.car(1);
        x.car(5);
        x.length(1, 3);
        CHECK.due("another lane", x.keep(3, 1, 9), CAST);
        CHECK.due("keep from -1", x.keep(3, 2, -1), INDEX);
        CHECK.due("keep from 2", x.keep(3, 2, 2), INDEX);
        CHECK.due("keep from the greatest", x.keep(3, 2, Integer.MAX_VALUE), INDEX);
        x.clear();
        CHECK.due("refused, nothing is written", x.cars(3, 2, 3, 1), NOT);
        x.car(4);
        x.car(1);
        x.car(5);
        CHECK.due("keep from 1", x.keep(3, 2, 1), 3);
        CHECK.due("the cars stay", x.count(1), 3);
        x.road(0, 10, 0);
        CHECK.due("item 0 is as it was", x.cars(3, 2, 0, 1), NOT);
        CHECK.due("kept wishes come", x.cars(3, 2, 1, 3), 3);
        CHECK.due("4", x.told(1, 0), 4);
        CHECK.due("1", x.told(2, 0), 1);
        CHECK.due("5", x.told(3, 0), 5);
        CHECK.due("a sheet outlasts the road", x.drop(3), 4);
    }
}
