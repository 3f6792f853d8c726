import java.util.Arrays;

/**
 * The sentences of the document that name an edge, of 'Terms' 1 and promises 1 to 12: each has a test of its own,
 * with the sentence above it.
 */
public final class EdgesOfRoadsTest {
    private static final int BAD = Edges.BAD, NOT = Edges.NOT, FULL = Edges.FULL, NONE = Edges.NONE;

    public static void main(String[] args) throws ReflectiveOperationException {
        Edges.runAll(EdgesOfRoadsTest.class);
    }

    private static LaneWishes twoCars() {
        return Made.straight(5, 2, 4);
    }

    private static LaneWishes threeOnBacking() {
        return Made.road(2, 5, 3, 5, 5, 5);
    }

    // ---- Terms: what refusals are

    // "BAD -1, NOT -2, FULL -3, NONE -4, NULL -11, CAST -12, INDEX -13, SIZE -14"
    static void termsRefusalsAreTheseNumbers() {
        int[] got = {LaneWishes.BAD, LaneWishes.NOT, LaneWishes.FULL, LaneWishes.NONE, LaneWishes.NULL, LaneWishes.CAST,
            LaneWishes.INDEX, LaneWishes.SIZE};
        int[] want = {-1, -2, -3, -4, -11, -12, -13, -14};
        for (int i = 0; i < want.length; i++) {
            Edges.due(got[i], want[i]);
        }
    }

    // "An object is used for at most 512 calls"
    static void termsThe512thCallAnswers() {
        LaneWishes x = new LaneWishes();
        for (int call = 1; call < 512; call++) {
            Edges.due(call % 2 == 0 ? x.undo() : x.car(1), call % 2 == 0 ? 0 : 1);
        }
        Edges.due("the 512th", x.count(1), 1);
    }

    // ---- 1 A ROAD

    // "PLACES 1 .. N (N 1 .. 10": the shortest
    static void term1ARoadOfOnePlace() {
        for (int kind = 0; kind < 3; kind++) {
            LaneWishes x = Made.road(kind, 1, 9, 1);
            Edges.places(x, 1);
            Edges.due("count(7)", x.count(7), 0);
            Edges.due("no second car", x.car(1), FULL);
        }
    }

    // "PLACES 1 .. N (N 1 .. 10": the longest
    static void term1ARoadOfTenPlaces() {
        for (int kind = 0; kind < 3; kind++) {
            Edges.places(Made.road(kind, 10, 9, 10, 9, 8, 7, 6, 5, 4, 3, 2, 1), 10, 9, 8, 7, 6, 5, 4, 3, 2, 1);
        }
    }

    // "5 at first"
    static void term1FivePlacesAtFirst() {
        LaneWishes x = new LaneWishes();
        Edges.due("count(0)", x.count(0), 5);
        Edges.due("on(5)", x.on(5), NONE);
        Edges.due("on(6)", x.on(6), BAD);
    }

    // "0 STRAIGHT (at first)"
    static void term1StraightAtFirst() {
        LaneWishes x = new LaneWishes();
        x.car(5);
        x.car(5);
        Edges.places(x, 5, NONE);
        Edges.due("orders()", x.orders(), 1);
    }

    // "1 ROUND (PLACE 1 is behind PLACE N)"
    static void term1RoundFromTheLastPlaceToTheFirst() {
        Edges.places(Made.road(1, 10, 0, 10, 10, 10), 10, 1, 2);
    }

    // "BACKING by b (0 .. 9)": by none
    static void term1BackingByNone() {
        Edges.places(Made.road(2, 3, 0, 2, 2, 2), 2, 3, NONE);
    }

    // "BACKING by b (0 .. 9)": by the most
    static void term1BackingByNine() {
        Edges.places(Made.road(2, 10, 9, 10, 9, 8, 7, 6, 5, 4, 3, 2, 10), 10, 9, 8, 7, 6, 5, 4, 3, 2, 1);
    }

    // "K 0 .. N": none
    static void term1NoCars() {
        LaneWishes x = Made.straight(3);
        long[] counts = {3, 0, 0, 0, 0, 0, 0, 3};
        for (int what = 0; what < 8; what++) {
            Edges.due("count(" + what + ")", x.count(what), counts[what]);
        }
        Edges.due("good()", x.good(), 1);
    }

    // "K 0 .. N": as many as places, though the places are not full
    static void term1AsManyCarsAsPlaces() {
        LaneWishes x = Made.straight(3, 3, 3, 3);
        Edges.due("count(1)", x.count(1), 3);
        Edges.due("count(7)", x.count(7), 2);
        Edges.due("car(1)", x.car(1), FULL);
    }

    // "WISHES (1 .. N)"
    static void term1TheLeastAndTheGreatestWish() {
        LaneWishes x = Made.straight(10, 1, 10);
        Edges.wishes(x, 1, 10);
        Edges.places(x, 1, 10);
    }

    // "LENGTHS (1 .. 4; 1 at first)"
    static void term1LengthOneAtFirst() {
        LaneWishes x = Made.straight(5, 2);
        Edges.due("told(1, 1)", x.told(1, 1), 1);
        Edges.due("on(2)", x.on(2), 1);
        Edges.due("on(3)", x.on(3), NONE);
    }

    // "LENGTHS (1 .. 4": the greatest
    static void term1LengthFour() {
        LaneWishes x = Made.withLength(Made.straight(6, 2), 1, 4);
        int[] on = {NONE, 1, 1, 1, 1, NONE};
        for (int place = 1; place <= 6; place++) {
            Edges.due("on(" + place + ")", x.on(place), on[place - 1]);
        }
    }

    // "Each goes to the first free PLACE from its WISH on": the WISH itself is the first
    static void term1AFreeWishIsTaken() {
        Edges.places(Made.straight(3, 2, 1, 3), 2, 1, 3);
        Edges.places(Made.road(1, 3, 0, 2, 1, 3), 2, 1, 3);
        Edges.places(Made.road(2, 3, 2, 2, 1, 3), 2, 1, 3);
    }

    // "the first free PLACE": over a stretch of taken ones, and not beyond the first free one
    static void term1TheFirstFreePlaceAndNoFarther() {
        Edges.places(Made.straight(6, 2, 3, 5, 2), 2, 3, 5, 4);
    }

    // "STRAIGHT: till N": N itself
    static void term1StraightTillTheLastPlace() {
        Edges.places(Made.straight(3, 2, 2), 2, 3);
    }

    // "STRAIGHT: till N": and no farther, though places ahead are free
    static void term1StraightNotBeyondTheLastPlace() {
        Edges.places(Made.straight(3, 3, 3), 3, NONE);
    }

    // "ROUND: all round": to the place just ahead of the wish
    static void term1RoundToThePlaceJustAhead() {
        Edges.places(Made.road(1, 4, 0, 3, 4, 1, 3), 3, 4, 1, 2);
    }

    // "ROUND: all round", "or there is none": all are taken, by a long car
    static void term1RoundAndNoneIsFree() {
        LaneWishes x = Made.withLength(Made.road(1, 4, 0, 2, 3), 1, 4);
        Edges.places(x, 2, NONE);
        Edges.due("good()", x.good(), 0);
    }

    // "BACKING: if its WISH is taken": it does not back if it is free
    static void term1BackingOnlyIfTheWishIsTaken() {
        Edges.places(Made.road(2, 5, 9, 3, 5), 3, 5);
    }

    // "b PLACES at most": the b-th back is still looked at
    static void term1BackingJustByB() {
        Edges.places(Made.road(2, 6, 2, 4, 3, 4), 4, 3, 2);
    }

    // "b PLACES at most": the one beyond it is not
    static void term1BackingNotBeyondB() {
        Edges.places(Made.road(2, 6, 1, 4, 3, 4), 4, 3, 5);
    }

    // "not beyond 1": 1 itself
    static void term1BackingToTheFirstPlace() {
        Edges.places(Made.road(2, 3, 9, 2, 2), 2, 1);
    }

    // "not beyond 1": then as STRAIGHT; PLACE N is not behind it
    static void term1BackingNotBeyondTheFirstPlace() {
        Edges.places(Made.road(2, 4, 9, 1, 1, 1), 1, 2, 3);
    }

    // "one by one .. to the first free one": the nearest back
    static void term1BackingToTheNearest() {
        Edges.places(Made.road(2, 5, 9, 4, 4), 4, 3);
    }

    // "else as STRAIGHT": none is free back, the next ahead is
    static void term1BackingElseAsStraight() {
        Edges.places(Made.road(2, 4, 1, 2, 1, 2), 2, 1, 3);
    }

    // "else as STRAIGHT": none ahead either
    static void term1BackingAndNoneIsFree() {
        LaneWishes x = Made.road(2, 4, 1, 4, 3, 4);
        Edges.places(x, 4, 3, NONE);
        Edges.due("count(7)", x.count(7), 2);
    }

    // "as many free PLACES on from it as it is long": just so many, till N
    static void term1LongJustToTheLastPlace() {
        LaneWishes x = Made.withLength(Made.straight(4, 2), 1, 3);
        Edges.places(x, 2);
        Edges.due("on(4)", x.on(4), 1);
    }

    // "if these are not free .. it LEAVES": one too few till N
    static void term1LongBeyondTheLastPlace() {
        Edges.places(Made.withLength(Made.straight(4, 2), 1, 4), NONE);
        Edges.places(Made.withLength(Made.road(2, 4, 9, 2), 1, 4), NONE);
    }

    // "as many free PLACES": just so many ahead of another car
    static void term1LongJustToAnotherCar() {
        Edges.places(Made.withLength(Made.straight(5, 4, 1), 2, 3), 4, 1);
    }

    // "if these are not free .. it LEAVES": one too few ahead of another car; it looks no farther
    static void term1LongIntoAnotherCar() {
        Edges.places(Made.withLength(Made.straight(6, 2, 1), 2, 2), 2, NONE);
    }

    // "(ROUND: round": a long car stands over the end
    static void term1LongRoundOverTheEnd() {
        LaneWishes x = Made.withLength(Made.road(1, 5, 0, 4), 1, 4);
        Edges.places(x, 4);
        int[] on = {1, 1, NONE, 1, 1};
        for (int place = 1; place <= 5; place++) {
            Edges.due("on(" + place + ")", x.on(place), on[place - 1]);
        }
    }

    // "(ROUND: round": another car stands in its way behind the end
    static void term1LongRoundOverTheEndIntoAnotherCar() {
        Edges.places(Made.withLength(Made.road(1, 5, 0, 1, 5), 2, 2), 1, NONE);
    }

    // "each but once": as long as the road is allowed
    static void term1AsLongAsARoundRoad() {
        for (int n = 1; n <= 4; n++) {
            LaneWishes x = Made.withLength(Made.road(1, n, 0, n), 1, n);
            Edges.places(x, n);
            Edges.due("count(7)", x.count(7), 0);
        }
    }

    // "each but once": longer than the road is not
    static void term1LongerThanARoundRoad() {
        for (int n = 1; n <= 3; n++) {
            Edges.places(Made.withLength(Made.road(1, n, 0, 1), 1, n + 1), NONE);
        }
    }

    // "it LEAVES (and stands nowhere)"
    static void term1OneThatLeavesStandsNowhere() {
        LaneWishes x = Made.withLength(Made.straight(3, 3, 3), 1, 2);
        Edges.places(x, NONE, 3);
        Edges.due("on(3)", x.on(3), 2);
        Edges.due("count(7)", x.count(7), 2);
    }

    // "LUCKY is one AT its WISH"
    static void term1LuckyJustAtTheWish() {
        LaneWishes x = Made.straight(3, 2, 2, 2);
        Edges.due("at its wish", x.told(1, 4), 1);
        Edges.due("one behind it", x.told(2, 4), 0);
        Edges.due("one that leaves", x.told(3, 4), 0);
        Edges.due("one back of it", Made.road(2, 3, 1, 2, 2).told(2, 4), 0);
    }

    // "It GOES as many PLACES as it is AT behind its WISH": none, if it is AT its WISH
    static void term1GoesNone() {
        for (int kind = 0; kind < 3; kind++) {
            Edges.due(Made.road(kind, 4, 3, 4).told(1, 3), 0);
        }
    }

    // "(ROUND: round)": over the end, and as far as can be
    static void term1GoesRound() {
        Edges.due("over the end", Made.road(1, 4, 0, 4, 4).told(2, 3), 1);
        Edges.due("all round but one", Made.road(1, 4, 0, 2, 3, 4, 2).told(4, 3), 3);
    }

    // "or back of it"
    static void term1GoesBack() {
        Edges.due("one back", Made.road(2, 4, 9, 4, 4).told(2, 3), 1);
        Edges.due("three back", Made.road(2, 4, 9, 4, 3, 2, 4).told(4, 3), 3);
        Edges.due("on, behind its wish", Made.road(2, 4, 9, 1, 2, 1).told(3, 3), 2);
    }

    // "GOOD is a ROW of WISHES, if all CARS COME IN": none, all, all but one
    static void term1GoodIfAllComeIn() {
        Edges.due("no cars", Made.straight(1).good(), 1);
        Edges.due("all", Made.straight(3, 2, 2, 1).good(), 1);
        Edges.due("all but one", Made.straight(3, 2, 2, 2).good(), 0);
        Edges.due("all but the first", Made.withLength(Made.straight(3, 3, 1), 1, 2).good(), 0);
    }

    // "PLAIN is all, if the ROAD is STRAIGHT"
    static void term1PlainOnlyOnAStraightRoad() {
        Edges.due("straight, no cars", Made.straight(3).rank(), 0);
        Edges.due("round, no cars", Made.road(1, 3, 0).rank(), NOT);
        Edges.due("backing by none, no cars", Made.road(2, 3, 0).rank(), NOT);
    }

    // "PLAIN is all, if .. all LENGTHS are 1": the first, the last; and again when it is short again
    static void term1PlainOnlyIfAllLengthsAreOne() {
        for (int car = 1; car <= 2; car++) {
            LaneWishes x = Made.withLength(Made.straight(6, 1, 4), car, 2);
            Edges.due("good", x.good(), 1);
            Edges.due("a long one", x.rank(), NOT);
            x.length(car, 1);
            Edges.due("short again", x.rank(), 3);
        }
    }

    // ---- Promise 1: a new object

    // "A STRAIGHT ROAD of 5 PLACES, no CARS": and no sheet holds anything ("nothing (at first)")
    static void promise1ANewObject() {
        LaneWishes x = new LaneWishes();
        Edges.due("N", x.count(0), 5);
        Edges.due("K", x.count(1), 0);
        Edges.due("free", x.count(7), 5);
        Edges.due("rows(5)", x.rows(5), 1296);
        Edges.due("rank()", x.rank(), 0);
        for (int sheet = 0; sheet < 4; sheet++) {
            Edges.due("drop", x.drop(sheet), Edges.NULL);
        }
    }

    // ---- Promise 2: road

    static void promise2KindBelow0() {
        Edges.refused(BAD, EdgesOfRoadsTest::threeOnBacking, x -> x.road(-1, 4, 0));
        Edges.refused(BAD, EdgesOfRoadsTest::threeOnBacking, x -> x.road(Edges.FAR_BELOW, 4, 0));
    }

    static void promise2KindAbove2() {
        Edges.refused(BAD, EdgesOfRoadsTest::threeOnBacking, x -> x.road(3, 4, 0));
        Edges.refused(BAD, EdgesOfRoadsTest::threeOnBacking, x -> x.road(Edges.FAR, 4, 0));
    }

    static void promise2NBelow1() {
        for (int kind = 0; kind < 3; kind++) {
            int someKind = kind;
            Edges.refused(BAD, EdgesOfRoadsTest::threeOnBacking, x -> x.road(someKind, 0, 0));
            Edges.refused(BAD, EdgesOfRoadsTest::threeOnBacking, x -> x.road(someKind, Edges.FAR_BELOW, 0));
        }
    }

    static void promise2NAbove10() {
        for (int kind = 0; kind < 3; kind++) {
            int someKind = kind;
            Edges.refused(BAD, EdgesOfRoadsTest::threeOnBacking, x -> x.road(someKind, 11, 0));
            Edges.refused(BAD, EdgesOfRoadsTest::threeOnBacking, x -> x.road(someKind, Edges.FAR, 0));
        }
    }

    static void promise2BBelow0OfBacking() {
        Edges.refused(BAD, EdgesOfRoadsTest::threeOnBacking, x -> x.road(2, 4, -1));
        Edges.refused(BAD, EdgesOfRoadsTest::threeOnBacking, x -> x.road(2, 4, Edges.FAR_BELOW));
    }

    static void promise2BAbove9OfBacking() {
        Edges.refused(BAD, EdgesOfRoadsTest::threeOnBacking, x -> x.road(2, 4, 10));
        Edges.refused(BAD, EdgesOfRoadsTest::threeOnBacking, x -> x.road(2, 4, Edges.FAR));
    }

    // "b (which counts for BACKING alone)": the others do not look at it
    static void promise2BCountsForBackingAlone() {
        int[] any = {-1, 0, 9, 10, Edges.FAR, Edges.FAR_BELOW};
        for (int b : any) {
            LaneWishes x = new LaneWishes();
            Edges.due("straight", x.road(0, 3, b), 1);
            x.car(3);
            x.car(3);
            Edges.places(x, 3, NONE);
            Edges.due("round", x.road(1, 3, b), 1);
            x.car(3);
            x.car(3);
            Edges.places(x, 3, 1);
        }
    }

    // "without CARS"; those that come are of LENGTH 1
    static void promise2ANewRoadIsEmpty() {
        LaneWishes x = Made.withLength(Made.straight(5, 1, 2), 1, 3);
        Edges.due("road(0, 5, 0)", x.road(0, 5, 0), 1);
        Edges.due("count(1)", x.count(1), 0);
        Edges.due("count(7)", x.count(7), 5);
        Edges.due("car(1)", x.car(1), 1);
        Edges.due("told(1, 1)", x.told(1, 1), 1);
    }

    // ---- Promise 3: car

    static void promise3WishBelow1() {
        Edges.refused(BAD, EdgesOfRoadsTest::twoCars, x -> x.car(0));
        Edges.refused(BAD, EdgesOfRoadsTest::twoCars, x -> x.car(-1));
        Edges.refused(BAD, EdgesOfRoadsTest::twoCars, x -> x.car(Edges.FAR_BELOW));
    }

    static void promise3WishAboveN() {
        Edges.refused(BAD, EdgesOfRoadsTest::twoCars, x -> x.car(6));
        Edges.refused(BAD, EdgesOfRoadsTest::twoCars, x -> x.car(Edges.FAR));
        Edges.refused(BAD, () -> Made.straight(1), x -> x.car(2));
        Edges.refused(BAD, () -> Made.straight(10), x -> x.car(11));
    }

    // "FULL: N": the N-th comes still
    static void promise3TheLastThatCanCome() {
        for (int n = 1; n <= 10; n++) {
            LaneWishes x = Made.straight(n);
            for (int car = 1; car <= n; car++) {
                Edges.due("car(1)", x.car(1), car);
            }
        }
    }

    static void promise3Full() {
        Edges.refused(FULL, () -> Made.straight(3, 3, 3, 3), x -> x.car(1));
        Edges.refused(FULL, () -> Made.straight(1, 1), x -> x.car(1));
        Edges.refused(FULL, () -> Made.straight(10, 1, 1, 1, 1, 1, 1, 1, 1, 1, 1), x -> x.car(10));
    }

    // BAD is named ahead of FULL
    static void promise3BadAheadOfFull() {
        Edges.refused(BAD, () -> Made.straight(3, 1, 1, 1), x -> x.car(4));
        Edges.refused(BAD, () -> Made.straight(3, 1, 1, 1), x -> x.car(0));
    }

    // ---- Promise 4: wish

    static void promise4CarBelow1() {
        Edges.refused(BAD, EdgesOfRoadsTest::twoCars, x -> x.wish(0, 1));
        Edges.refused(BAD, EdgesOfRoadsTest::twoCars, x -> x.wish(Edges.FAR_BELOW, 1));
    }

    static void promise4CarAboveK() {
        Edges.refused(BAD, EdgesOfRoadsTest::twoCars, x -> x.wish(3, 1));
        Edges.refused(BAD, EdgesOfRoadsTest::twoCars, x -> x.wish(Edges.FAR, 1));
        Edges.refused(BAD, LaneWishes::new, x -> x.wish(1, 1));
    }

    static void promise4WishBelow1() {
        Edges.refused(BAD, EdgesOfRoadsTest::twoCars, x -> x.wish(1, 0));
        Edges.refused(BAD, EdgesOfRoadsTest::twoCars, x -> x.wish(1, Edges.FAR_BELOW));
    }

    static void promise4WishAboveN() {
        Edges.refused(BAD, EdgesOfRoadsTest::twoCars, x -> x.wish(2, 6));
        Edges.refused(BAD, EdgesOfRoadsTest::twoCars, x -> x.wish(2, Edges.FAR));
    }

    // the least and the greatest; "what it was"
    static void promise4TheLeastAndTheGreatest() {
        LaneWishes x = twoCars();
        Edges.due("wish(1, 5)", x.wish(1, 5), 2);
        Edges.due("wish(2, 1)", x.wish(2, 1), 4);
        Edges.due("wish(1, 5) again", x.wish(1, 5), 5);
        Edges.wishes(x, 5, 1);
        Edges.places(x, 5, 1);
    }

    // a car that left may come in, and one that came behind it may be pushed on
    static void promise4AllComeAnew() {
        LaneWishes x = Made.straight(3, 3, 3, 2);
        Edges.places(x, 3, NONE, 2);
        x.wish(2, 2);
        Edges.places(x, 3, 2, NONE);
    }

    // ---- Promise 5: length

    static void promise5CarBelow1() {
        Edges.refused(BAD, EdgesOfRoadsTest::twoCars, x -> x.length(0, 2));
        Edges.refused(BAD, EdgesOfRoadsTest::twoCars, x -> x.length(Edges.FAR_BELOW, 2));
    }

    static void promise5CarAboveK() {
        Edges.refused(BAD, EdgesOfRoadsTest::twoCars, x -> x.length(3, 2));
        Edges.refused(BAD, LaneWishes::new, x -> x.length(1, 2));
        Edges.refused(BAD, LaneWishes::new, x -> x.length(Edges.FAR, 2));
    }

    static void promise5LengthBelow1() {
        Edges.refused(BAD, EdgesOfRoadsTest::twoCars, x -> x.length(1, 0));
        Edges.refused(BAD, EdgesOfRoadsTest::twoCars, x -> x.length(1, Edges.FAR_BELOW));
    }

    static void promise5LengthAbove4() {
        Edges.refused(BAD, EdgesOfRoadsTest::twoCars, x -> x.length(1, 5));
        Edges.refused(BAD, EdgesOfRoadsTest::twoCars, x -> x.length(1, Edges.FAR));
    }

    // the least and the greatest; "what it was"
    static void promise5TheLeastAndTheGreatest() {
        LaneWishes x = Made.straight(10, 1);
        Edges.due("length(1, 4)", x.length(1, 4), 1);
        Edges.due("length(1, 4) again", x.length(1, 4), 4);
        Edges.due("length(1, 1)", x.length(1, 1), 4);
        Edges.due("free", x.count(7), 9);
    }

    // a length may be longer than the road: the car leaves
    static void promise5LongerThanTheRoad() {
        LaneWishes x = Made.straight(1, 1);
        Edges.due("length(1, 4)", x.length(1, 4), 1);
        Edges.places(x, NONE);
    }

    // ---- Promise 6: undo

    static void promise6NoneIsThere() {
        Edges.refused(NOT, LaneWishes::new, x -> x.undo());
        Edges.refused(NOT, () -> Made.road(1, 3, 0), x -> x.undo());
    }

    // "how many are left": none, behind the last
    static void promise6DownToNone() {
        LaneWishes x = Made.straight(2, 2, 2);
        Edges.due("undo()", x.undo(), 1);
        Edges.places(x, 2);
        Edges.due("undo()", x.undo(), 0);
        Edges.due("free", x.count(7), 2);
        Edges.due("undo()", x.undo(), NOT);
    }

    // the road that was full takes one more
    static void promise6OfAFullRoad() {
        LaneWishes x = Made.withLength(Made.straight(3, 1, 2, 3), 3, 2);
        Edges.due("undo()", x.undo(), 2);
        Edges.due("car(3)", x.car(3), 3);
        Edges.due("its length", x.told(3, 1), 1);
        Edges.places(x, 1, 2, 3);
    }

    // ---- Promise 7: clear

    // "how many there were": none
    static void promise7NoneWereThere() {
        LaneWishes x = new LaneWishes();
        Edges.due("clear()", x.clear(), 0);
        Edges.due("count(1)", x.count(1), 0);
    }

    // "All go home": of a full road, those that left too; the road stays
    static void promise7AllGoHome() {
        LaneWishes x = Made.road(2, 10, 1, 10, 10, 10, 10, 10, 10, 10, 10, 10, 10);
        Edges.due("clear()", x.clear(), 10);
        Edges.due("count(1)", x.count(1), 0);
        Edges.due("count(7)", x.count(7), 10);
        Edges.due("told(1, 0)", x.told(1, 0), BAD);
        x.car(10);
        x.car(10);
        Edges.places(x, 10, 9);
    }

    // ---- Promise 8: told

    static void promise8CarBelow1() {
        for (int what = 0; what < 5; what++) {
            int someWhat = what;
            Edges.refused(BAD, EdgesOfRoadsTest::twoCars, x -> x.told(0, someWhat));
            Edges.refused(BAD, EdgesOfRoadsTest::twoCars, x -> x.told(Edges.FAR_BELOW, someWhat));
        }
    }

    static void promise8CarAboveK() {
        for (int what = 0; what < 5; what++) {
            int someWhat = what;
            Edges.refused(BAD, EdgesOfRoadsTest::twoCars, x -> x.told(3, someWhat));
            Edges.refused(BAD, EdgesOfRoadsTest::twoCars, x -> x.told(Edges.FAR, someWhat));
            Edges.refused(BAD, LaneWishes::new, x -> x.told(1, someWhat));
        }
    }

    static void promise8WhatBelow0() {
        Edges.refused(BAD, EdgesOfRoadsTest::twoCars, x -> x.told(1, -1));
        Edges.refused(BAD, EdgesOfRoadsTest::twoCars, x -> x.told(1, Edges.FAR_BELOW));
    }

    static void promise8WhatAbove4() {
        Edges.refused(BAD, EdgesOfRoadsTest::twoCars, x -> x.told(1, 5));
        Edges.refused(BAD, EdgesOfRoadsTest::twoCars, x -> x.told(1, Edges.FAR));
    }

    // "the PLACE where it is AT (NONE: it LEAVES)"
    static void promise8NoPlaceOfOneThatLeaves() {
        Edges.refused(NONE, () -> Made.straight(2, 2, 2), x -> x.told(2, 2));
    }

    // "how far it GOES (NONE)"
    static void promise8OneThatLeavesGoesNowhere() {
        Edges.refused(NONE, () -> Made.straight(2, 2, 2), x -> x.told(2, 3));
        Edges.refused(NONE, () -> Made.withLength(Made.road(1, 3, 0, 2), 1, 4), x -> x.told(1, 3));
    }

    // "whether LUCKY": one that LEAVES is not, and that is no refusal
    static void promise8OneThatLeavesIsNotLucky() {
        Edges.due(Made.straight(2, 2, 2).told(2, 4), 0);
        Edges.due(Made.withLength(Made.straight(2, 2), 1, 2).told(1, 4), 0);
    }

    // of one that LEAVES, WISH and LENGTH are told
    static void promise8WishAndLengthOfOneThatLeaves() {
        LaneWishes x = Made.withLength(Made.straight(2, 2), 1, 2);
        Edges.due("told(1, 0)", x.told(1, 0), 2);
        Edges.due("told(1, 1)", x.told(1, 1), 2);
    }

    // ---- Promise 9: on

    static void promise9PlaceBelow1() {
        Edges.refused(BAD, EdgesOfRoadsTest::twoCars, x -> x.on(0));
        Edges.refused(BAD, EdgesOfRoadsTest::twoCars, x -> x.on(Edges.FAR_BELOW));
    }

    static void promise9PlaceAboveN() {
        Edges.refused(BAD, EdgesOfRoadsTest::twoCars, x -> x.on(6));
        Edges.refused(BAD, EdgesOfRoadsTest::twoCars, x -> x.on(Edges.FAR));
        Edges.refused(BAD, () -> Made.straight(10), x -> x.on(11));
        Edges.refused(BAD, () -> Made.straight(1, 1), x -> x.on(2));
        // a place number modulo 32 is none
        Edges.refused(BAD, () -> Made.straight(3, 1), x -> x.on(33));
    }

    // "NONE: free": of an empty road all, ahead of a long car and behind it
    static void promise9Free() {
        for (int place = 1; place <= 3; place++) {
            Edges.due("empty", Made.straight(3).on(place), NONE);
        }
        LaneWishes x = Made.withLength(Made.straight(4, 2), 1, 2);
        Edges.due("on(1)", x.on(1), NONE);
        Edges.due("on(4)", x.on(4), NONE);
    }

    // "The CAR on a PLACE": a long one on its first, its last, and over the end of a ROUND road
    static void promise9ALongCar() {
        LaneWishes x = Made.withLength(Made.road(1, 4, 0, 2, 4), 2, 2);
        int[] on = {2, 1, NONE, 2};
        for (int place = 1; place <= 4; place++) {
            Edges.due("on(" + place + ")", x.on(place), on[place - 1]);
        }
    }

    // ---- Promise 10: count

    static void promise10WhatBelow0() {
        Edges.refused(BAD, EdgesOfRoadsTest::twoCars, x -> x.count(-1));
        Edges.refused(BAD, EdgesOfRoadsTest::twoCars, x -> x.count(Edges.FAR_BELOW));
    }

    static void promise10WhatAbove7() {
        Edges.refused(BAD, EdgesOfRoadsTest::twoCars, x -> x.count(8));
        Edges.refused(BAD, EdgesOfRoadsTest::twoCars, x -> x.count(Edges.FAR));
    }

    // "2 that COME IN, 3 that LEAVE": all, none
    static void promise10AllComeInAndAllLeave() {
        LaneWishes all = Made.straight(3, 1, 1, 1);
        Edges.due("come in", all.count(2), 3);
        Edges.due("leave", all.count(3), 0);
        LaneWishes none = Made.withLength(Made.withLength(Made.straight(3, 3, 3), 1, 2), 2, 4);
        Edges.due("come in", none.count(2), 0);
        Edges.due("leave", none.count(3), 2);
        Edges.due("free", none.count(7), 3);
    }

    // "4 LUCKY": all; one that leaves is none
    static void promise10Lucky() {
        Edges.due("all", Made.straight(3, 3, 1, 2).count(4), 3);
        Edges.due("one that leaves", Made.straight(3, 3, 3).count(4), 1);
    }

    // "5 GOES of all together": those that leave go nowhere; as much as can be
    static void promise10GoesOfAll() {
        Edges.due("one leaves", Made.straight(3, 2, 2, 2).count(5), 1);
        Edges.due("the most", Made.straight(10, 1, 1, 1, 1, 1, 1, 1, 1, 1, 1).count(5), 45);
        Edges.due("back and on", Made.road(2, 3, 1, 2, 2, 2).count(5), 2);
    }

    // "6 the greatest": none, if none comes in or all are lucky
    static void promise10TheGreatest() {
        Edges.due("all lucky", Made.straight(3, 1, 2).count(6), 0);
        Edges.due("none comes in", Made.withLength(Made.straight(2, 2), 1, 2).count(6), 0);
        Edges.due("the most", Made.straight(10, 1, 1, 1, 1, 1, 1, 1, 1, 1, 1).count(6), 9);
        Edges.due("the greatest is not the last", Made.straight(5, 1, 1, 1, 4).count(6), 2);
    }

    // "7 free PLACES": none
    static void promise10FreePlaces() {
        Edges.due("full", Made.straight(4, 4, 3, 2, 1).count(7), 0);
        Edges.due("full of one", Made.withLength(Made.road(1, 4, 0, 3), 1, 4).count(7), 0);
        Edges.due("empty", Made.straight(10).count(7), 10);
    }

    // ---- Promise 11: good

    // "1, 0": no cars; just good; just not
    static void promise11Good() {
        Edges.due("no cars", new LaneWishes().good(), 1);
        Edges.due("just good", Made.straight(4, 4, 3, 2, 1).good(), 1);
        Edges.due("one too many", Made.straight(4, 4, 3, 3, 3).good(), 0);
        Edges.due("round", Made.road(1, 4, 0, 4, 4, 4, 4).good(), 1);
        Edges.due("long", Made.withLength(Made.straight(4, 4), 1, 2).good(), 0);
    }

    // ---- Promise 12: ways

    // "K WISHES": no cars: one ROW, which is GOOD
    static void promise12OfNoCars() {
        for (int kind = 0; kind < 3; kind++) {
            Edges.due(Made.road(kind, 10, 9).ways(), 1);
        }
    }

    // "CARS of these LENGTHS": none fits
    static void promise12OfACarThatNeverFits() {
        Edges.due(Made.withLength(Made.straight(3, 1), 1, 4).ways(), 0);
        Edges.due(Made.withLength(Made.road(1, 3, 0, 1), 1, 4).ways(), 0);
    }

    // "NOT: more than 100000 ROWS": just 100000 are gone through
    static void promise12OfJust100000Rows() {
        Edges.due("straight", Made.straight(10, 1, 1, 1, 1, 1).ways(), 87846);
        Edges.due("round", Made.road(1, 10, 0, 1, 1, 1, 1, 1).ways(), 100000);
    }

    static void promise12OfMoreThan100000Rows() {
        Edges.refused(NOT, () -> Made.road(1, 7, 0, 1, 1, 1, 1, 1, 1), x -> x.ways());
        Edges.refused(NOT, () -> Made.straight(10, 1, 1, 1, 1, 1, 1), x -> x.ways());
        // 8^6: 262144 is the first of 8; 10^10 is beyond ints
        Edges.refused(NOT, () -> Made.straight(8, 1, 1, 1, 1, 1, 1), x -> x.ways());
        Edges.refused(NOT, () -> Made.straight(10, 1, 1, 1, 1, 1, 1, 1, 1, 1, 1), x -> x.ways());
        Edges.refused(NOT, () -> Made.straight(8, 1, 1, 1, 1, 1, 1, 1, 1), x -> x.ways());
    }

    // all of the shortest roads that have few enough rows
    static void promise12OfFullRoadsThatAreShortEnough() {
        long[] straight = {1, 3, 16, 125, 1296, 16807};
        for (int n = 1; n <= 6; n++) {
            int[] wishes = new int[n];
            Arrays.fill(wishes, n);
            Edges.due("straight " + n, Made.straight(n, wishes).ways(), straight[n - 1]);
            Edges.due("round " + n, Made.road(1, n, 0, wishes).ways(), (long) Math.pow(n, n));
            Edges.due("backing all " + n, Made.road(2, n, 9, wishes).ways(), (long) Math.pow(n, n));
        }
    }

    // asked again, and of other cars, rows of before do not count
    static void promise12AskedAgain() {
        LaneWishes x = Made.straight(4, 1, 1, 1, 1);
        Edges.due("four cars", x.ways(), 125);
        Edges.due("again", x.ways(), 125);
        x.undo();
        Edges.due("three cars", x.ways(), 50);
        x.clear();
        Edges.due("no cars", x.ways(), 1);
    }
}
