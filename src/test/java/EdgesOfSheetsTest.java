/**
 * The sentences of the document that name an edge, of the sheets and promises 35 to 39: each has a test of its own,
 * with the sentence above it.
 */
public final class EdgesOfSheetsTest {
    private static final int BAD = Edges.BAD, NOT = Edges.NOT, FULL = Edges.FULL;
    private static final int NULL = Edges.NULL, CAST = Edges.CAST, INDEX = Edges.INDEX, SIZE = Edges.SIZE;

    public static void main(String[] args) throws ReflectiveOperationException {
        Edges.runAll(EdgesOfSheetsTest.class);
    }

    /** Sheet 1 holds shorts 3 1 5, sheet 3 ints 2 4; 0 and 2 hold nothing. Two cars of five. */
    private static LaneWishes sheets() {
        LaneWishes x = Made.withLength(Made.straight(5, 4, 2), 2, 3);
        Made.onSheet(x, 1, 1, 3, 1, 5);
        return Made.onSheet(x, 3, 2, 2, 4);
    }

    private static LaneWishes holding(int lane, int... items) {
        return Made.onSheet(Made.straight(5), 0, lane, items);
    }

    /** What one item is seen as on a road of 10: its value, if it is a place. */
    private static int seen(LaneWishes x, int sheet, int lane, int i) {
        x.road(0, 10, 0);
        int came = x.cars(sheet, lane, i, 1);
        return came == 1 ? x.told(1, 0) : came;
    }

    // ---- 5 sheets 0 .. 3

    // "nothing (at first)": each sheet, by each call that asks for it
    static void term5NothingAtFirst() {
        for (int sheet = 0; sheet < 4; sheet++) {
            for (int lane = 0; lane < 3; lane++) {
                LaneWishes x = new LaneWishes();
                Edges.due("item", x.item(sheet, lane, 0, 1), NULL);
                Edges.due("cars", x.cars(sheet, lane, 0, 1), NULL);
                Edges.due("keep", x.keep(sheet, lane, 0), NULL);
                Edges.due("decode", x.decode(sheet, lane, 0), NULL);
                Edges.due("grow", x.grow(sheet, lane, 0), NULL);
                Edges.due("drop", x.drop(sheet), NULL);
            }
        }
    }

    // "0 bytes": what is more than a byte is not kept
    static void term5Bytes() {
        LaneWishes x = holding(0, 256 + 7, -256 + 10, 256, 128, -249);
        int[] want = {7, 10, NOT, NOT, 7};
        for (int i = 0; i < want.length; i++) {
            Edges.due("item " + i, seen(x, 0, 0, i), want[i]);
        }
    }

    // "1 shorts": what is more than a byte stays more
    static void term5Shorts() {
        LaneWishes x = holding(1, 65536 + 7, -65536 + 10, 256 + 7, 65536, 32768 + 7);
        int[] want = {7, 10, NOT, NOT, NOT};
        for (int i = 0; i < want.length; i++) {
            Edges.due("item " + i, seen(x, 0, 1, i), want[i]);
        }
    }

    // "2 ints": all bits stay
    static void term5Ints() {
        LaneWishes x = holding(2, 7, 65536 + 7, 256 + 7, Edges.FAR, Edges.FAR_BELOW + 7, 10);
        int[] want = {7, NOT, NOT, NOT, NOT, 10};
        for (int i = 0; i < want.length; i++) {
            Edges.due("item " + i, seen(x, 0, 2, i), want[i]);
        }
    }

    // "of 0 to 20 items": none
    static void term5ARowOfNoItems() {
        for (int lane = 0; lane < 3; lane++) {
            int someLane = lane;
            Edges.due("sheet", new LaneWishes().sheet(0, lane, 0), 0);
            Edges.due("drop", holding(lane).drop(0), 0);
            Edges.refused(INDEX, () -> holding(someLane), x -> x.item(0, someLane, 0, 1));
            Edges.refused(INDEX, () -> holding(someLane), x -> x.cars(0, someLane, 0, 1));
        }
    }

    // "of 0 to 20 items": twenty, of which the last can be used
    static void term5ARowOfTwentyItems() {
        for (int sheet = 0; sheet < 4; sheet++) {
            for (int lane = 0; lane < 3; lane++) {
                LaneWishes x = new LaneWishes();
                Edges.due("sheet", x.sheet(sheet, lane, 20), 20);
                Edges.due("item 19", x.item(sheet, lane, 19, 9), 1);
                Edges.due("item 20", x.item(sheet, lane, 20, 9), INDEX);
                Edges.due("seen", seen(x, sheet, lane, 19), 9);
                Edges.due("drop", x.drop(sheet), 20);
            }
        }
    }

    // ---- Promise 35: sheet

    static void promise35SheetBelow0() {
        Edges.refused(BAD, EdgesOfSheetsTest::sheets, x -> x.sheet(-1, 0, 2));
        Edges.refused(BAD, EdgesOfSheetsTest::sheets, x -> x.sheet(Edges.FAR_BELOW, 0, 2));
    }

    static void promise35SheetAbove3() {
        Edges.refused(BAD, EdgesOfSheetsTest::sheets, x -> x.sheet(4, 0, 2));
        Edges.refused(BAD, EdgesOfSheetsTest::sheets, x -> x.sheet(Edges.FAR, 0, 2));
    }

    static void promise35LaneBelow0() {
        Edges.refused(BAD, EdgesOfSheetsTest::sheets, x -> x.sheet(1, -1, 2));
        Edges.refused(BAD, EdgesOfSheetsTest::sheets, x -> x.sheet(1, Edges.FAR_BELOW, 2));
    }

    static void promise35LaneAbove2() {
        Edges.refused(BAD, EdgesOfSheetsTest::sheets, x -> x.sheet(1, 3, 2));
        Edges.refused(BAD, EdgesOfSheetsTest::sheets, x -> x.sheet(1, Edges.FAR, 2));
    }

    // "BAD: also n above 20"
    static void promise35NAbove20() {
        Edges.refused(BAD, EdgesOfSheetsTest::sheets, x -> x.sheet(1, 1, 21));
        Edges.refused(BAD, EdgesOfSheetsTest::sheets, x -> x.sheet(0, 0, Edges.FAR));
    }

    // "SIZE: n below 0": what the sheet held it holds still
    static void promise35NBelow0() {
        Edges.refused(SIZE, EdgesOfSheetsTest::sheets, x -> x.sheet(1, 1, -1));
        Edges.refused(SIZE, EdgesOfSheetsTest::sheets, x -> x.sheet(1, 0, -1));
        Edges.refused(SIZE, EdgesOfSheetsTest::sheets, x -> x.sheet(0, 2, Edges.FAR_BELOW));
    }

    // BAD is named ahead of SIZE
    static void promise35BadAheadOfSize() {
        Edges.refused(BAD, EdgesOfSheetsTest::sheets, x -> x.sheet(-1, 1, -1));
        Edges.refused(BAD, EdgesOfSheetsTest::sheets, x -> x.sheet(4, 1, -1));
        Edges.refused(BAD, EdgesOfSheetsTest::sheets, x -> x.sheet(1, -1, -1));
        Edges.refused(BAD, EdgesOfSheetsTest::sheets, x -> x.sheet(1, 3, -1));
    }

    // "a new row": of noughts, whatever was there; the lane may be another; other sheets stay
    static void promise35ANewRow() {
        LaneWishes x = sheets();
        Edges.due("sheet", x.sheet(1, 0, 3), 3);
        Edges.due("the old lane", x.item(1, 1, 0, 1), CAST);
        for (int i = 0; i < 3; i++) {
            Edges.due("item " + i, seen(x, 1, 0, i), NOT);
        }
        Edges.due("sheet 3", seen(x, 3, 2, 1), 4);
    }

    // items that a longer row had are not there again when a row is as long anew
    static void promise35ALongRowAfterAShortOne() {
        LaneWishes x = holding(0, 5, 5, 5, 5);
        x.sheet(0, 0, 1);
        Edges.due("item 1 is gone", x.item(0, 0, 1, 5), INDEX);
        x.sheet(0, 0, 4);
        for (int i = 0; i < 4; i++) {
            Edges.due("item " + i, seen(x, 0, 0, i), NOT);
        }
    }

    // ---- Promise 36: drop

    static void promise36SheetBelow0() {
        Edges.refused(BAD, EdgesOfSheetsTest::sheets, x -> x.drop(-1));
        Edges.refused(BAD, EdgesOfSheetsTest::sheets, x -> x.drop(Edges.FAR_BELOW));
    }

    static void promise36SheetAbove3() {
        Edges.refused(BAD, EdgesOfSheetsTest::sheets, x -> x.drop(4));
        Edges.refused(BAD, EdgesOfSheetsTest::sheets, x -> x.drop(Edges.FAR));
    }

    static void promise36HoldsNothing() {
        Edges.refused(NULL, EdgesOfSheetsTest::sheets, x -> x.drop(0));
        Edges.refused(NULL, EdgesOfSheetsTest::sheets, x -> x.drop(2));
    }

    // "how many items it had": then it holds nothing; the others stay
    static void promise36ThenItHoldsNothing() {
        LaneWishes x = sheets();
        Edges.due("drop(1)", x.drop(1), 3);
        Edges.due("drop(1) again", x.drop(1), NULL);
        Edges.due("item", x.item(1, 1, 0, 1), NULL);
        Edges.due("drop(3)", x.drop(3), 2);
    }

    // ---- Promise 37: item

    static void promise37SheetBelow0OrAbove3() {
        Edges.refused(BAD, EdgesOfSheetsTest::sheets, x -> x.item(-1, 1, 0, 2));
        Edges.refused(BAD, EdgesOfSheetsTest::sheets, x -> x.item(4, 1, 0, 2));
        Edges.refused(BAD, EdgesOfSheetsTest::sheets, x -> x.item(Edges.FAR, 1, 0, 2));
        Edges.refused(BAD, EdgesOfSheetsTest::sheets, x -> x.item(Edges.FAR_BELOW, 1, 0, 2));
    }

    static void promise37LaneBelow0OrAbove2() {
        Edges.refused(BAD, EdgesOfSheetsTest::sheets, x -> x.item(1, -1, 0, 2));
        Edges.refused(BAD, EdgesOfSheetsTest::sheets, x -> x.item(1, 3, 0, 2));
        Edges.refused(BAD, EdgesOfSheetsTest::sheets, x -> x.item(1, Edges.FAR, 0, 2));
    }

    static void promise37BadAheadOfNull() {
        Edges.refused(BAD, EdgesOfSheetsTest::sheets, x -> x.item(0, 3, 0, 2));
        Edges.refused(BAD, EdgesOfSheetsTest::sheets, x -> x.item(0, -1, -1, 2));
    }

    static void promise37HoldsNothing() {
        Edges.refused(NULL, EdgesOfSheetsTest::sheets, x -> x.item(0, 0, 0, 2));
        Edges.refused(NULL, EdgesOfSheetsTest::sheets, x -> x.item(2, 2, 0, 2));
    }

    static void promise37NullAheadOfIndex() {
        Edges.refused(NULL, EdgesOfSheetsTest::sheets, x -> x.item(0, 0, -1, 2));
        Edges.refused(NULL, EdgesOfSheetsTest::sheets, x -> x.item(0, 0, 99, 2));
    }

    static void promise37AnotherLane() {
        Edges.refused(CAST, EdgesOfSheetsTest::sheets, x -> x.item(1, 0, 0, 2));
        Edges.refused(CAST, EdgesOfSheetsTest::sheets, x -> x.item(1, 2, 0, 2));
        Edges.refused(CAST, EdgesOfSheetsTest::sheets, x -> x.item(3, 1, 0, 2));
    }

    static void promise37CastAheadOfIndex() {
        Edges.refused(CAST, EdgesOfSheetsTest::sheets, x -> x.item(1, 0, 3, 2));
        Edges.refused(CAST, EdgesOfSheetsTest::sheets, x -> x.item(1, 0, -1, 2));
    }

    static void promise37IBelow0() {
        Edges.refused(INDEX, EdgesOfSheetsTest::sheets, x -> x.item(1, 1, -1, 2));
        Edges.refused(INDEX, EdgesOfSheetsTest::sheets, x -> x.item(1, 1, Edges.FAR_BELOW, 2));
    }

    static void promise37IBeyondTheLast() {
        Edges.refused(INDEX, EdgesOfSheetsTest::sheets, x -> x.item(1, 1, 3, 2));
        Edges.refused(INDEX, EdgesOfSheetsTest::sheets, x -> x.item(3, 2, 2, 2));
        Edges.refused(INDEX, EdgesOfSheetsTest::sheets, x -> x.item(1, 1, Edges.FAR, 2));
    }

    // the first, the last
    static void promise37TheFirstAndTheLast() {
        LaneWishes x = sheets();
        Edges.due("item 0", x.item(1, 1, 0, 9), 1);
        Edges.due("item 2", x.item(1, 1, 2, 8), 1);
        int[] want = {9, 1, 8};
        for (int i = 0; i < 3; i++) {
            Edges.due("item " + i, seen(x, 1, 1, i), want[i]);
        }
    }

    // "becomes v, its lowest bits": v is never BAD
    static void promise37AnyValue() {
        int[] any = {Edges.FAR, Edges.FAR_BELOW, -1, 0, 128, 32768, 65535};
        for (int lane = 0; lane < 3; lane++) {
            for (int v : any) {
                Edges.due("item of " + v, holding(lane, 0).item(0, lane, 0, v), 1);
            }
        }
    }

    // ---- Promise 38: cars

    static void promise38NBelow0() {
        Edges.refused(BAD, EdgesOfSheetsTest::sheets, x -> x.cars(1, 1, 0, -1));
        Edges.refused(BAD, EdgesOfSheetsTest::sheets, x -> x.cars(1, 1, 0, Edges.FAR_BELOW));
    }

    // "n CARS (0 .. 10)": eleven are BAD, though the sheet has so many
    static void promise38NAbove10() {
        Edges.refused(BAD, () -> holding(0, 1, 1, 1, 1, 1, 1, 1, 1, 1, 1, 1, 1), x -> x.cars(0, 0, 0, 11));
        Edges.refused(BAD, EdgesOfSheetsTest::sheets, x -> x.cars(1, 1, 0, Edges.FAR));
    }

    static void promise38SheetBelow0OrAbove3() {
        Edges.refused(BAD, EdgesOfSheetsTest::sheets, x -> x.cars(-1, 1, 0, 1));
        Edges.refused(BAD, EdgesOfSheetsTest::sheets, x -> x.cars(4, 1, 0, 1));
        Edges.refused(BAD, EdgesOfSheetsTest::sheets, x -> x.cars(Edges.FAR, 1, 0, 0));
    }

    static void promise38LaneBelow0OrAbove2() {
        Edges.refused(BAD, EdgesOfSheetsTest::sheets, x -> x.cars(1, -1, 0, 1));
        Edges.refused(BAD, EdgesOfSheetsTest::sheets, x -> x.cars(1, 3, 0, 1));
    }

    static void promise38BadAheadOfNull() {
        Edges.refused(BAD, EdgesOfSheetsTest::sheets, x -> x.cars(0, 0, 0, 11));
        Edges.refused(BAD, EdgesOfSheetsTest::sheets, x -> x.cars(0, 0, 0, -1));
        Edges.refused(BAD, EdgesOfSheetsTest::sheets, x -> x.cars(0, 3, 0, 1));
    }

    // of no CARS too
    static void promise38HoldsNothing() {
        Edges.refused(NULL, EdgesOfSheetsTest::sheets, x -> x.cars(0, 0, 0, 1));
        Edges.refused(NULL, EdgesOfSheetsTest::sheets, x -> x.cars(2, 1, 0, 0));
    }

    static void promise38NullAheadOfIndex() {
        Edges.refused(NULL, EdgesOfSheetsTest::sheets, x -> x.cars(0, 0, -1, 1));
        Edges.refused(NULL, EdgesOfSheetsTest::sheets, x -> x.cars(0, 0, 30, 1));
    }

    // of no CARS too
    static void promise38AnotherLane() {
        Edges.refused(CAST, EdgesOfSheetsTest::sheets, x -> x.cars(1, 0, 0, 1));
        Edges.refused(CAST, EdgesOfSheetsTest::sheets, x -> x.cars(1, 2, 0, 1));
        Edges.refused(CAST, EdgesOfSheetsTest::sheets, x -> x.cars(3, 0, 0, 0));
    }

    static void promise38CastAheadOfIndex() {
        Edges.refused(CAST, EdgesOfSheetsTest::sheets, x -> x.cars(1, 0, -1, 1));
        Edges.refused(CAST, EdgesOfSheetsTest::sheets, x -> x.cars(1, 2, 3, 1));
    }

    static void promise38FromBelow0() {
        Edges.refused(INDEX, EdgesOfSheetsTest::sheets, x -> x.cars(1, 1, -1, 1));
        Edges.refused(INDEX, EdgesOfSheetsTest::sheets, x -> x.cars(1, 1, -1, 3));
        Edges.refused(INDEX, EdgesOfSheetsTest::sheets, x -> x.cars(1, 1, Edges.FAR_BELOW, 2));
    }

    static void promise38TooFewItemsAreLeft() {
        Edges.refused(INDEX, EdgesOfSheetsTest::sheets, x -> x.cars(1, 1, 0, 4));
        Edges.refused(INDEX, EdgesOfSheetsTest::sheets, x -> x.cars(1, 1, 2, 2));
        Edges.refused(INDEX, EdgesOfSheetsTest::sheets, x -> x.cars(1, 1, 3, 1));
        Edges.refused(INDEX, EdgesOfSheetsTest::sheets, x -> x.cars(1, 1, Edges.FAR, 1));
        Edges.refused(INDEX, EdgesOfSheetsTest::sheets, x -> x.cars(1, 1, Edges.FAR, 10));
        Edges.refused(INDEX, EdgesOfSheetsTest::sheets, x -> x.cars(1, 1, Edges.FAR - 9, 10));
    }

    // INDEX is named ahead of NOT and FULL
    static void promise38IndexAheadOfNotAndFull() {
        Edges.refused(INDEX, () -> holding(0, 0, 6), x -> x.cars(0, 0, 0, 3));
        Edges.refused(INDEX, EdgesOfSheetsTest::sheets, x -> x.cars(3, 2, 0, 4));
    }

    // "NOT: one is no PLACE": N is one still, N + 1, 0 and -1 are not; the first, the last
    static void promise38OneIsNoPlace() {
        Edges.refused(NOT, () -> holding(0, 6, 1, 1), x -> x.cars(0, 0, 0, 3));
        Edges.refused(NOT, () -> holding(0, 1, 1, 6), x -> x.cars(0, 0, 0, 3));
        Edges.refused(NOT, () -> holding(1, 0, 1, 1), x -> x.cars(0, 1, 0, 3));
        Edges.refused(NOT, () -> holding(2, 1, 1, -1), x -> x.cars(0, 2, 0, 3));
        Edges.due("1 and N are places", holding(2, 5, 1, 5).cars(0, 2, 0, 3), 3);
    }

    // NOT is named ahead of FULL
    static void promise38NotAheadOfFull() {
        Edges.refused(NOT, () -> Made.onSheet(Made.straight(2, 1, 1), 0, 0, 1, 3), x -> x.cars(0, 0, 0, 2));
        Edges.refused(NOT, () -> Made.onSheet(Made.straight(2), 0, 0, 1, 1, 0), x -> x.cars(0, 0, 0, 3));
    }

    // "FULL": one too many: none of them comes
    static void promise38OneTooMany() {
        Edges.refused(FULL, () -> Made.onSheet(Made.straight(3, 1, 1), 0, 0, 1, 2), x -> x.cars(0, 0, 0, 2));
        Edges.refused(FULL, () -> Made.onSheet(Made.straight(3, 1, 1, 1), 0, 0, 1, 2), x -> x.cars(0, 0, 1, 1));
        Edges.refused(FULL, () -> Made.onSheet(Made.straight(1), 0, 0, 1, 1), x -> x.cars(0, 0, 0, 2));
    }

    // just as many as there is room for
    static void promise38JustFull() {
        Edges.due("two more", Made.onSheet(Made.straight(3, 1), 0, 0, 1, 2).cars(0, 0, 0, 2), 3);
        LaneWishes ten = Made.onSheet(Made.straight(10), 0, 0, 10, 9, 8, 7, 6, 5, 4, 3, 2, 1);
        Edges.due("ten", ten.cars(0, 0, 0, 10), 10);
        Edges.wishes(ten, 10, 9, 8, 7, 6, 5, 4, 3, 2, 1);
        Edges.places(ten, 10, 9, 8, 7, 6, 5, 4, 3, 2, 1);
    }

    // "n CARS (0 ..": none come, of a full road too, and of a row of no items
    static void promise38NoCars() {
        LaneWishes x = sheets();
        Edges.due("two stay", x.cars(1, 1, 0, 0), 2);
        Edges.due("a full road", Made.onSheet(Made.straight(1, 1), 0, 0, 9).cars(0, 0, 0, 0), 1);
        Edges.due("no items", holding(0).cars(0, 0, 0, 0), 0);
        Edges.due("no place among the others", holding(0, 99, 99).cars(0, 0, 1, 0), 0);
    }

    // of no CARS the end itself can be had, what is beyond it not
    static void promise38NoCarsFromTheEnd() {
        Edges.due("the end", sheets().cars(1, 1, 3, 0), 2);
        Edges.refused(INDEX, EdgesOfSheetsTest::sheets, x -> x.cars(1, 1, 4, 0));
        Edges.refused(INDEX, EdgesOfSheetsTest::sheets, x -> x.cars(1, 1, -1, 0));
    }

    // "from one on": the last item
    static void promise38FromTheLastItem() {
        LaneWishes x = sheets();
        Edges.due("cars", x.cars(1, 1, 2, 1), 3);
        Edges.due("its wish", x.told(3, 0), 5);
    }

    // they come behind those that are there, of LENGTH 1, on any road
    static void promise38BehindThoseThatAreThere() {
        LaneWishes x = Made.onSheet(Made.withLength(Made.road(1, 5, 0, 5, 2), 1, 2), 0, 0, 5, 1);
        x.undo();
        Edges.due("cars", x.cars(0, 0, 0, 2), 3);
        Edges.wishes(x, 5, 5, 1);
        Edges.places(x, 5, 2, 3);
        Edges.due("told(1, 1)", x.told(1, 1), 2);
        Edges.due("told(2, 1)", x.told(2, 1), 1);
    }

    // ---- Promise 39: keep

    static void promise39SheetBelow0OrAbove3() {
        Edges.refused(BAD, EdgesOfSheetsTest::sheets, x -> x.keep(-1, 1, 0));
        Edges.refused(BAD, EdgesOfSheetsTest::sheets, x -> x.keep(4, 1, 0));
        Edges.refused(BAD, EdgesOfSheetsTest::sheets, x -> x.keep(Edges.FAR, 1, 0));
        Edges.refused(BAD, EdgesOfSheetsTest::sheets, x -> x.keep(Edges.FAR_BELOW, 1, 0));
    }

    static void promise39LaneBelow0OrAbove2() {
        Edges.refused(BAD, EdgesOfSheetsTest::sheets, x -> x.keep(1, -1, 0));
        Edges.refused(BAD, EdgesOfSheetsTest::sheets, x -> x.keep(1, 3, 0));
    }

    static void promise39BadAheadOfNull() {
        Edges.refused(BAD, EdgesOfSheetsTest::sheets, x -> x.keep(0, 3, 0));
        Edges.refused(BAD, EdgesOfSheetsTest::sheets, x -> x.keep(0, -1, -1));
    }

    // of no CARS too
    static void promise39HoldsNothing() {
        Edges.refused(NULL, EdgesOfSheetsTest::sheets, x -> x.keep(0, 0, 0));
        Edges.refused(NULL, LaneWishes::new, x -> x.keep(2, 2, 0));
    }

    static void promise39NullAheadOfIndex() {
        Edges.refused(NULL, EdgesOfSheetsTest::sheets, x -> x.keep(0, 0, -1));
        Edges.refused(NULL, EdgesOfSheetsTest::sheets, x -> x.keep(0, 0, 19));
    }

    // of no CARS too
    static void promise39AnotherLane() {
        Edges.refused(CAST, EdgesOfSheetsTest::sheets, x -> x.keep(1, 0, 0));
        Edges.refused(CAST, EdgesOfSheetsTest::sheets, x -> x.keep(1, 2, 0));
        Edges.refused(CAST, () -> holding(1, 5), x -> x.keep(0, 0, 0));
    }

    static void promise39CastAheadOfIndex() {
        Edges.refused(CAST, EdgesOfSheetsTest::sheets, x -> x.keep(1, 0, -1));
        Edges.refused(CAST, EdgesOfSheetsTest::sheets, x -> x.keep(1, 2, 2));
    }

    static void promise39FromBelow0() {
        Edges.refused(INDEX, EdgesOfSheetsTest::sheets, x -> x.keep(1, 1, -1));
        Edges.refused(INDEX, EdgesOfSheetsTest::sheets, x -> x.keep(1, 1, Edges.FAR_BELOW));
    }

    // one too few is left: none is written
    static void promise39TooFewItemsAreLeft() {
        Edges.refused(INDEX, EdgesOfSheetsTest::sheets, x -> x.keep(1, 1, 2));
        Edges.refused(INDEX, EdgesOfSheetsTest::sheets, x -> x.keep(3, 2, 1));
        Edges.refused(INDEX, EdgesOfSheetsTest::sheets, x -> x.keep(1, 1, Edges.FAR));
        Edges.refused(INDEX, () -> Made.onSheet(Made.straight(3, 3, 2, 1), 0, 0, 5, 5), x -> x.keep(0, 0, 0));
    }

    // just enough are left; what is ahead and behind stays
    static void promise39JustEnoughItems() {
        LaneWishes last = sheets();
        Edges.due("keep from 1", last.keep(1, 1, 1), 2);
        int[] want = {3, 4, 2};
        for (int i = 0; i < 3; i++) {
            Edges.due("item " + i, seen(last, 1, 1, i), want[i]);
        }
        LaneWishes first = sheets();
        Edges.due("keep from 0", first.keep(1, 1, 0), 2);
        int[] wanted = {4, 2, 5};
        for (int i = 0; i < 3; i++) {
            Edges.due("item " + i, seen(first, 1, 1, i), wanted[i]);
        }
    }

    // "WISHES of all CARS": none
    static void promise39NoCars() {
        Edges.refused(0, () -> holding(0, 5, 5), x -> x.keep(0, 0, 0));
        Edges.refused(0, () -> holding(0), x -> x.keep(0, 0, 0));
    }

    // of no CARS the end itself can be had, what is beyond it not
    static void promise39NoCarsFromTheEnd() {
        Edges.refused(0, () -> holding(0, 5, 5), x -> x.keep(0, 0, 2));
        Edges.refused(INDEX, () -> holding(0, 5, 5), x -> x.keep(0, 0, 3));
        Edges.refused(INDEX, () -> holding(0, 5, 5), x -> x.keep(0, 0, -1));
    }

    // "WISHES of all CARS": ten, those that leave too, on any road
    static void promise39TenCars() {
        LaneWishes x = Made.road(1, 10, 0, 10, 10, 10, 10, 10, 10, 10, 10, 10, 9);
        x.length(1, 4);
        x.sheet(2, 0, 20);
        Edges.due("keep from 10", x.keep(2, 0, 10), 10);
        Edges.due("the cars stay", x.count(1), 10);
        Edges.due("item 9", seen(x, 2, 0, 9), NOT);
        Edges.due("item 10", seen(x, 2, 0, 10), 10);
        Edges.due("item 19", seen(x, 2, 0, 19), 9);
    }
}
