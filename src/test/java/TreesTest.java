import java.util.Arrays;

/** Promises 26 to 33: trees, codes, walks. */
public final class TreesTest {
    private static final Check CHECK = new Check();
    private static final int BAD = -1, NOT = -2, NULL = -11, CAST = -12, INDEX = -13;

    public static void main(String[] args) {
        aTree();
        aChainAndAStar();
        longRoundTrips();
        decodeRefusals();
        growRefusals();
        aWalk();
        both();
        refusals();
        CHECK.end("TreesTest");
    }

    private static LaneWishes with(int kind, int n, int... wishes) {
        return Made.road(kind, n, 1, wishes);
    }

    private static void nodes(String told, LaneWishes x, int what, int... want) {
        for (int c = 1; c <= want.length; c++) {
            CHECK.due(told + ": node(" + c + ", " + what + ")", x.node(c, what), want[c - 1]);
        }
    }

    /** Seen: 0; of 1: 2, 5; of 2 (car 2): 6; of 3 (car 5): 1, 3; of 4 (car 6): none; of 5 (car 1): 4. */
    private static void aTree() {
        LaneWishes x = with(0, 6, 3, 1, 3, 5, 1, 2);
        nodes("parent", x, 0, 5, 0, 5, 1, 0, 2);
        nodes("depth", x, 1, 2, 1, 2, 3, 1, 2);
        nodes("children", x, 2, 1, 1, 0, 0, 2, 0);
        nodes("below", x, 3, 1, 1, 0, 0, 3, 0);
        nodes("seen as", x, 4, 5, 2, 6, 7, 3, 4);
        // below a greater one: 1, 3, 4 below 5
        CHECK.due("inv", x.inv(), 3);
        // struck: 6 (2), 4 (1), 3 (5), 2 (0), 1 (5)
        int[] code = {2, 1, 5, 0, 5};
        for (int i = 0; i < 5; i++) {
            CHECK.due("code(" + i + ")", x.code(i), code[i]);
        }
        CHECK.due("code(5)", x.code(5), BAD);
        CHECK.due("code(-1)", x.code(-1), BAD);
        CHECK.due("node(0, 0)", x.node(0, 0), BAD);
        CHECK.due("node(7, 0)", x.node(7, 0), BAD);
        CHECK.due("node(1, 5)", x.node(1, 5), BAD);
        CHECK.due("node(1, -1)", x.node(1, -1), BAD);
    }

    private static void aChainAndAStar() {
        LaneWishes chain = with(0, 10, 10, 9, 8, 7, 6, 5, 4, 3, 2, 1);
        nodes("chain", chain, 0, 2, 3, 4, 5, 6, 7, 8, 9, 10, 0);
        nodes("chain", chain, 1, 10, 9, 8, 7, 6, 5, 4, 3, 2, 1);
        CHECK.due("inv of a chain", chain.inv(), 45);
        LaneWishes star = with(0, 10, 1, 1, 1, 1, 1, 1, 1, 1, 1, 1);
        CHECK.due("inv of a star", star.inv(), 0);
        for (int i = 0; i < 9; i++) {
            CHECK.due("code of a star", star.code(i), 0);
            CHECK.due("code of a chain", chain.code(i), i < 8 ? i + 2 : 10);
        }
        LaneWishes one = with(0, 1, 1);
        CHECK.due("node of one", one.node(1, 4), 2);
        CHECK.due("code of one", one.code(0), BAD);
        CHECK.due("inv of one", one.inv(), 0);
    }

    private static void longRoundTrips() {
        LaneWishes x = with(0, 10);
        x.sheet(0, 2, 20);
        x.sheet(1, 0, 12);
        for (long r = 12345; r < 2357947691L; r += 98765431L) {
            x.unrank(10, r);
            for (int i = 0; i < 9; i++) {
                x.item(0, 2, 11 + i, x.code(i));
            }
            for (int c = 1; c <= 10; c++) {
                x.item(1, 0, 1 + c, x.node(c, 0));
            }
            x.unrank(3, 0);
            x.length(1, 2);
            CHECK.due("decode", x.decode(0, 2, 11), 10);
            CHECK.due("rank of the decoded", x.rank(), r);
            x.unrank(3, 0);
            x.length(1, 2);
            CHECK.due("grow", x.grow(1, 0, 2), 10);
            CHECK.due("rank of the grown", x.rank(), r);
            CHECK.due("AREA is what all GO", x.counts(0), x.count(5));
            if (x.count(1) != 10) {
                return;
            }
        }
    }

    private static void decodeRefusals() {
        LaneWishes x = Made.onSheet(with(0, 4, 2), 1, 1, 0, 4, 4, 5, -1);
        CHECK.due("sheet -1", x.decode(-1, 1, 0), BAD);
        CHECK.due("sheet 4", x.decode(4, 1, 0), BAD);
        CHECK.due("lane 3", x.decode(1, 3, 0), BAD);
        CHECK.due("lane -1", x.decode(1, -1, 0), BAD);
        CHECK.due("no sheet", x.decode(0, 1, 0), NULL);
        CHECK.due("another lane", x.decode(1, 0, 99), CAST);
        CHECK.due("from -1", x.decode(1, 1, -1), INDEX);
        CHECK.due("from 3", x.decode(1, 1, 3), INDEX);
        CHECK.due("from the greatest", x.decode(1, 1, Integer.MAX_VALUE), INDEX);
        CHECK.due("item 5 is no node", x.decode(1, 1, 1), NOT);
        CHECK.due("item -1 is no node", x.decode(1, 1, 2), NOT);
        CHECK.due("refused changes nothing", x.count(1) * 10 + x.told(1, 0), 12);
        CHECK.due("decode", x.decode(1, 1, 0), 4);
        // struck: 3 (0), 2 (4), 1 (4), then 4 and 0 are left
        int[] parents = {4, 4, 0, 0};
        nodes("decoded", x, 0, parents);
        x.road(1, 4, 0);
        CHECK.due("a round road", x.decode(1, 1, 0), NOT);
        CHECK.due("a round road, beyond", x.decode(1, 1, 3), INDEX);
        x.road(0, 1, 0);
        CHECK.due("one place", x.decode(1, 1, 0), NOT);
        x.road(0, 2, 0);
        CHECK.due("two places", x.decode(1, 1, 0), 2);
        CHECK.due("two places", x.rank(), 0);
    }

    private static void growRefusals() {
        LaneWishes x = Made.onSheet(with(0, 3, 2), 2, 2, 0, 1, 2, 0, 4, -1, 3, 1, 2, 0, 0);
        CHECK.due("sheet -1", x.grow(-1, 2, 0), BAD);
        CHECK.due("sheet 4", x.grow(4, 2, 0), BAD);
        CHECK.due("lane 3", x.grow(2, 3, 0), BAD);
        CHECK.due("no sheet", x.grow(0, 2, 0), NULL);
        CHECK.due("another lane", x.grow(2, 1, -1), CAST);
        CHECK.due("from -1", x.grow(2, 2, -1), INDEX);
        CHECK.due("from 9", x.grow(2, 2, 9), INDEX);
        CHECK.due("item 4 is no node", x.grow(2, 2, 2), NOT);
        CHECK.due("item -1 is no node", x.grow(2, 2, 5), NOT);
        CHECK.due("1 below itself", x.grow(2, 2, 1), NOT);
        CHECK.due("all below themselves", x.grow(2, 2, 6), NOT);
        CHECK.due("refused changes nothing", x.count(1) * 10 + x.told(1, 0), 12);
        CHECK.due("grow a chain", x.grow(2, 2, 0), 3);
        nodes("grown", x, 0, 0, 1, 2);
        CHECK.due("grow from the last that can be", x.grow(2, 2, 8), 3);
        nodes("grown", x, 0, 2, 0, 0);
        x.road(2, 3, 0);
        CHECK.due("a backing road", x.grow(2, 2, 0), NOT);
        x.road(0, 1, 0);
        CHECK.due("one place", x.grow(2, 2, 0), 1);
        CHECK.due("one place, itself", x.grow(2, 2, 1), NOT);
    }

    private static void aWalk() {
        LaneWishes x = with(0, 6, 3, 1, 3, 5, 1, 2);
        int[] cars = {2, 5, 6, 1, 3, 4};
        int[] heights = {0, 1, 1, 1, 2, 1};
        for (int j = 1; j <= 6; j++) {
            CHECK.due("walk(" + j + ", 0)", x.walk(j, 0), cars[j - 1]);
            CHECK.due("walk(" + j + ", 1)", x.walk(j, 1), heights[j - 1]);
        }
        CHECK.due("area", x.counts(0), 6);
        // of like heights 5 6, 1 4; none that fall by one: 3 is less than 4
        CHECK.due("dinv", x.counts(1), 2);
        // heights 0 1 1 of 2 3 1, then 0 1 0 of 1 3 2
        CHECK.due("dinv of rising heights", with(0, 3, 2, 1, 1).counts(1), 0);
        CHECK.due("dinv of falling heights", with(0, 3, 1, 3, 1).counts(1), 2);
        CHECK.due("walk(0, 0)", x.walk(0, 0), BAD);
        CHECK.due("walk(7, 0)", x.walk(7, 0), BAD);
        CHECK.due("walk(1, 2)", x.walk(1, 2), BAD);
        CHECK.due("walk(1, -1)", x.walk(1, -1), BAD);
        CHECK.due("counts(2)", x.counts(2), BAD);
        CHECK.due("counts(-1)", x.counts(-1), BAD);
    }

    private static void both() {
        LaneWishes x = with(1, 7);
        CHECK.due("both(0, 0, 0)", x.both(0, 0, 0), BAD);
        CHECK.due("both(6, 0, 0)", x.both(6, 0, 0), BAD);
        int[][] two = {{0, 0, 1}, {0, 1, 1}, {1, 0, 1}, {1, 1, 0}, {-1, 0, 0}, {0, -1, 0}, {2, 0, 0}, {11, 0, 0}, {0, 11, 0}};
        for (int[] t : two) {
            CHECK.due("both of 2", x.both(2, t[0], t[1]), t[2]);
        }
        CHECK.due("both far off", x.both(5, Integer.MAX_VALUE, Integer.MIN_VALUE), 0);
        int[] all = {1, 3, 16, 125, 1296};
        for (int n = 5; n >= 1; n--) {
            int sum = 0;
            int[] areas = new int[11];
            int[] dinvs = new int[11];
            for (int a = 0; a <= 10; a++) {
                for (int d = 0; d <= 10; d++) {
                    int rows = x.both(n, a, d);
                    sum += rows;
                    areas[a] += rows;
                    dinvs[d] += rows;
                    CHECK.due("the counts can change places", x.both(n, d, a), rows);
                }
            }
            CHECK.due("both of all", sum, all[n - 1]);
            LaneWishes y = new LaneWishes();
            for (int a = 0; a <= 10; a++) {
                CHECK.due("by area", areas[a], y.spread(0, n, a));
                CHECK.due("by dinv", dinvs[a], y.spread(0, n, a));
            }
        }
        CHECK.due("both leaves the road", x.count(0), 7);
    }

    private static void refusals() {
        LaneWishes few = with(0, 3, 1, 2);
        LaneWishes[] no = Arrays.copyOf(Made.notPlainGood(), 6);
        no[5] = few;
        for (LaneWishes x : no) {
            CHECK.due("node", x.node(1, 0), NOT);
            CHECK.due("node, bad first", x.node(1, 5), BAD);
            CHECK.due("node of no car", x.node(4, 0), BAD);
            CHECK.due("inv", x.inv(), NOT);
            CHECK.due("code", x.code(0), NOT);
            CHECK.due("code, bad first", x.code(2), BAD);
            CHECK.due("walk", x.walk(3, 0), NOT);
            CHECK.due("walk, bad first", x.walk(4, 0), BAD);
            CHECK.due("counts", x.counts(1), NOT);
            CHECK.due("counts, bad first", x.counts(2), BAD);
        }
        CHECK.due("node of a car that has not come", few.node(3, 0), BAD);
    }
}
