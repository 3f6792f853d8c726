import java.util.List;
import java.util.function.Supplier;
import java.util.function.ToLongFunction;

/**
 * The sentences of the document that name an edge, of 'Terms' 3 and promises 26 to 33: each has a test of its own,
 * with the sentence above it.
 */
public final class EdgesOfTreesTest {
    private static final int BAD = Edges.BAD, NOT = Edges.NOT, NULL = Edges.NULL, CAST = Edges.CAST, INDEX = Edges.INDEX;

    public static void main(String[] args) throws ReflectiveOperationException {
        Edges.runAll(EdgesOfTreesTest.class);
    }

    /** The tree: 1 below 2, 3 below 1; 2 below the root. */
    private static LaneWishes three() {
        return Made.straight(3, 2, 1, 3);
    }

    /** Each below the root. */
    private static LaneWishes star(int n) {
        LaneWishes x = Made.straight(n);
        while (x.car(1) > 0) {
            continue;
        }
        return x;
    }

    /** N below the root, N - 1 below N, .. 1 below 2. */
    private static LaneWishes chain(int n) {
        LaneWishes x = Made.straight(n);
        for (int wish = n; wish >= 1; wish--) {
            x.car(wish);
        }
        return x;
    }

    /** Sheet 1 holds shorts, the others hold nothing. Two cars of four, one of them long, that stay if a call is refused. */
    private static LaneWishes withSheet(int... items) {
        return Made.onSheet(Made.withLength(Made.straight(4, 4, 2), 2, 2), 1, 1, items);
    }

    private static void parents(LaneWishes x, int... want) {
        for (int car = 1; car <= want.length; car++) {
            Edges.due("parent of " + car, x.node(car, 0), want[car - 1]);
        }
    }

    /** BAD is named ahead of NOT, whatever makes the row have no tree. */
    private static void badAheadOfNot(ToLongFunction<LaneWishes> call) {
        Edges.refusedInAll(BAD, Made.notPlain(), call);
        Edges.refusedInAll(BAD, Made.notGood(), call);
        Edges.refusedInAll(BAD, Made.few(), call);
    }

    // ---- 3 THE TREE

    // "nodes 0 .. N, 0 the root": the shortest tree
    static void term3TheTreeOfOneCar() {
        LaneWishes x = Made.straight(1, 1);
        int[] want = {0, 1, 0, 0, 2};
        for (int what = 0; what < 5; what++) {
            Edges.due("node(1, " + what + ")", x.node(1, what), want[what]);
        }
    }

    // "the CARS that wish i are the children of the node that is seen as the i-th": the last of all to be seen has none
    static void term3TheDeepestAndTheFlattestTree() {
        LaneWishes chain = chain(10);
        LaneWishes star = star(10);
        for (int car = 1; car <= 10; car++) {
            Edges.due("chain: parent", chain.node(car, 0), car == 10 ? 0 : car + 1);
            Edges.due("star: parent", star.node(car, 0), 0);
        }
    }

    // "are put at the end of those to be seen, the least first"
    static void term3TheLeastIsSeenFirst() {
        LaneWishes x = Made.straight(4, 2, 1, 1, 3);
        int[] seen = {4, 2, 3, 5};
        for (int car = 1; car <= 4; car++) {
            Edges.due("node(" + car + ", 4)", x.node(car, 4), seen[car - 1]);
        }
        parents(x, 2, 0, 0, 3);
    }

    // "(child, child's child, and so on)": INV counts not the children alone; and the root is no CAR
    static void term3InvCountsAllThatAreBelow() {
        Edges.due("chain of 3 2 1", chain(3).inv(), 3);
        Edges.due("chain of 1 2 3", Made.straight(3, 1, 2, 3).inv(), 0);
        Edges.due("chain of 3 1 2", Made.straight(3, 2, 3, 1).inv(), 2);
    }

    // "ITS CODE (N 2 or more": of 2 it has one number; of 1 none
    static void term3TheShortestCode() {
        Edges.due("of 2, a star", star(2).code(0), 0);
        Edges.due("of 2, a chain", chain(2).code(0), 2);
        Edges.due("of 1", Made.straight(1, 1).code(0), BAD);
    }

    // "the greatest is struck, and its neighbour is the next number"
    static void term3TheGreatestIsStruck() {
        LaneWishes x = Made.straight(4, 1, 2, 2, 1);
        // 4 and 1 below the root, 2 and 3 below 1: struck are 4, 3, 2
        int[] code = {0, 1, 1};
        for (int i = 0; i < 3; i++) {
            Edges.due("code(" + i + ")", x.code(i), code[i]);
        }
    }

    // "nodes that have but one neighbour (root or not)": the root may have but one, and is a neighbour
    static void term3TheRootWithOneNeighbour() {
        LaneWishes x = Made.straight(3, 1, 2, 3);
        // struck: 3, then 2
        Edges.due("code(0)", x.code(0), 2);
        Edges.due("code(1)", x.code(1), 1);
    }

    // "CARS in order of WISHES, of like ones the least first"
    static void term3TheWalkOfLikeWishes() {
        LaneWishes x = Made.straight(4, 2, 1, 2, 1);
        int[] cars = {2, 4, 1, 3};
        for (int j = 1; j <= 4; j++) {
            Edges.due("walk(" + j + ", 0)", x.walk(j, 0), cars[j - 1]);
        }
    }

    // "HEIGHT of the j-th is j less its WISH": none, and the most
    static void term3TheLeastAndTheGreatestHeight() {
        LaneWishes chain = chain(10);
        LaneWishes star = star(10);
        for (int j = 1; j <= 10; j++) {
            Edges.due("chain", chain.walk(j, 1), 0);
            Edges.due("star", star.walk(j, 1), j - 1);
        }
        Edges.due("AREA of a chain", chain.counts(0), 0);
        Edges.due("AREA of a star", star.counts(0), 45);
    }

    // "DINV: pairs i < j of like HEIGHTS with ci less than cj"
    static void term3DinvOfLikeHeights() {
        Edges.due("all lesser", Made.straight(3, 1, 2, 3).counts(1), 3);
        Edges.due("all greater", chain(3).counts(1), 0);
    }

    // "or HEIGHT of the i-th one more than that of the j-th with ci greater than cj"
    static void term3DinvOfFallingHeights() {
        // heights 0 1 0 of 1 3 2
        Edges.due("3 ahead of 2", Made.straight(3, 1, 3, 1).counts(1), 2);
        // heights 0 1 0 of 1 2 3
        Edges.due("2 ahead of 3", Made.straight(3, 1, 1, 3).counts(1), 1);
    }

    // "one more": not two more, and not one less
    static void term3DinvNotOfOtherHeights() {
        // heights 0 1 2 0 of 1 2 4 3: pairs 1 3; 4 is two higher than 3, 2 is less than 3
        Edges.due("two more", Made.straight(4, 1, 1, 4, 1).counts(1), 1);
        // heights 0 1 2 of 1 2 3
        Edges.due("one less", star(3).counts(1), 0);
    }

    // ---- Promise 26: node

    static void promise26CarBelow1() {
        Edges.refused(BAD, EdgesOfTreesTest::three, x -> x.node(0, 0));
        Edges.refused(BAD, EdgesOfTreesTest::three, x -> x.node(Edges.FAR_BELOW, 0));
    }

    static void promise26CarAboveK() {
        Edges.refused(BAD, EdgesOfTreesTest::three, x -> x.node(4, 0));
        Edges.refused(BAD, EdgesOfTreesTest::three, x -> x.node(Edges.FAR, 0));
        Edges.refused(BAD, LaneWishes::new, x -> x.node(1, 0));
    }

    static void promise26WhatBelow0() {
        Edges.refused(BAD, EdgesOfTreesTest::three, x -> x.node(1, -1));
        Edges.refused(BAD, EdgesOfTreesTest::three, x -> x.node(1, Edges.FAR_BELOW));
    }

    static void promise26WhatAbove4() {
        Edges.refused(BAD, EdgesOfTreesTest::three, x -> x.node(1, 5));
        Edges.refused(BAD, EdgesOfTreesTest::three, x -> x.node(1, Edges.FAR));
    }

    static void promise26BadAheadOfNot() {
        badAheadOfNot(x -> x.node(4, 0));
        badAheadOfNot(x -> x.node(0, 0));
        badAheadOfNot(x -> x.node(1, 5));
        badAheadOfNot(x -> x.node(1, -1));
        // less than N cars: a number up to N that no car has is BAD
        Edges.refused(BAD, () -> Made.straight(3, 1, 1), x -> x.node(3, 0));
    }

    static void promise26NotPlain() {
        Edges.refusedInAll(NOT, Made.notPlain(), x -> x.node(1, 0));
    }

    static void promise26NotGood() {
        Edges.refusedInAll(NOT, Made.notGood(), x -> x.node(1, 4));
    }

    static void promise26NotNCars() {
        Edges.refused(NOT, () -> Made.straight(3, 1, 2), x -> x.node(1, 0));
        Edges.refused(NOT, () -> Made.straight(2, 1), x -> x.node(1, 1));
    }

    // "(children of the root: 1)": and the deepest
    static void promise26HowDeep() {
        LaneWishes x = chain(10);
        for (int car = 1; car <= 10; car++) {
            Edges.due("node(" + car + ", 1)", x.node(car, 1), 11 - car);
        }
        Edges.due("star", star(10).node(10, 1), 1);
    }

    // "how many children", "how many nodes are below it": none, and all but itself
    static void promise26NoneBelowAndAllBelow() {
        LaneWishes x = Made.straight(4, 1, 2, 2, 2);
        Edges.due("all are children", x.node(1, 2), 3);
        Edges.due("all are below", x.node(1, 3), 3);
        Edges.due("no children", x.node(4, 2), 0);
        Edges.due("none below", x.node(4, 3), 0);
        Edges.due("one child, all below", chain(10).node(10, 2), 1);
        Edges.due("one child, all below", chain(10).node(10, 3), 9);
    }

    // asked again, and of another row, the tree of before does not count
    static void promise26AskedAgain() {
        LaneWishes x = chain(3);
        for (int time = 0; time < 2; time++) {
            Edges.due("3 in the chain: children", x.node(3, 2), 1);
            Edges.due("3 in the chain: below", x.node(3, 3), 2);
        }
        x.unrank(3, 0);
        Edges.due("3 in the star: children", x.node(3, 2), 0);
        Edges.due("3 in the star: below", x.node(3, 3), 0);
        Edges.due("3 in the star: depth", x.node(3, 1), 1);
    }

    // "as which it is seen (2 ..)": the first behind the root, and the last
    static void promise26SeenAsTheSecondAndTheLast() {
        Edges.due("the second", chain(10).node(10, 4), 2);
        Edges.due("the last", chain(10).node(1, 4), 11);
        Edges.due("the second", star(10).node(1, 4), 2);
        Edges.due("the last", star(10).node(10, 4), 11);
    }

    // ---- Promise 27: inv

    static void promise27NotPlain() {
        Edges.refusedInAll(NOT, Made.notPlain(), x -> x.inv());
    }

    static void promise27NotGood() {
        Edges.refusedInAll(NOT, Made.notGood(), x -> x.inv());
    }

    static void promise27NotNCars() {
        Edges.refusedInAll(NOT, Made.few(), x -> x.inv());
    }

    static void promise27NoneAndTheMost() {
        Edges.due("one car", Made.straight(1, 1).inv(), 0);
        Edges.due("star", star(10).inv(), 0);
        Edges.due("chain", chain(10).inv(), 45);
    }

    // ---- Promise 28: code

    static void promise28IBelow0() {
        Edges.refused(BAD, EdgesOfTreesTest::three, x -> x.code(-1));
        Edges.refused(BAD, EdgesOfTreesTest::three, x -> x.code(Edges.FAR_BELOW));
    }

    // "(0 .. N - 2)"
    static void promise28IAboveNLess2() {
        Edges.refused(BAD, EdgesOfTreesTest::three, x -> x.code(2));
        Edges.refused(BAD, EdgesOfTreesTest::three, x -> x.code(Edges.FAR));
        Edges.refused(BAD, () -> star(10), x -> x.code(9));
    }

    // of one place there is no number
    static void promise28OfOnePlace() {
        Edges.refused(BAD, () -> Made.straight(1, 1), x -> x.code(0));
        Edges.refused(BAD, () -> Made.straight(1, 1), x -> x.code(-1));
    }

    static void promise28TheFirstAndTheLast() {
        Edges.due("the first", chain(10).code(0), 2);
        Edges.due("the last but one", chain(10).code(7), 9);
        Edges.due("the last", chain(10).code(8), 10);
        Edges.due("the last of a star", star(10).code(8), 0);
    }

    static void promise28BadAheadOfNot() {
        badAheadOfNot(x -> x.code(-1));
        Edges.refusedInAll(BAD, Made.notPlain(), x -> x.code(2));
        Edges.refusedInAll(BAD, Made.notGood(), x -> x.code(2));
        Edges.refusedInAll(BAD, Made.few(), x -> x.code(2));
    }

    static void promise28NotPlain() {
        Edges.refusedInAll(NOT, Made.notPlain(), x -> x.code(0));
    }

    static void promise28NotGood() {
        Edges.refusedInAll(NOT, Made.notGood(), x -> x.code(1));
    }

    static void promise28NotNCars() {
        Edges.refused(NOT, () -> Made.straight(3, 1, 2), x -> x.code(0));
        Edges.refused(NOT, () -> Made.straight(3), x -> x.code(1));
    }

    // ---- Promise 29: decode

    static void promise29SheetBelow0OrAbove3() {
        Edges.refused(BAD, () -> withSheet(0, 0, 0), x -> x.decode(-1, 1, 0));
        Edges.refused(BAD, () -> withSheet(0, 0, 0), x -> x.decode(4, 1, 0));
        Edges.refused(BAD, () -> withSheet(0, 0, 0), x -> x.decode(Edges.FAR_BELOW, 1, 0));
        Edges.refused(BAD, () -> withSheet(0, 0, 0), x -> x.decode(Edges.FAR, 1, 0));
    }

    static void promise29LaneBelow0OrAbove2() {
        Edges.refused(BAD, () -> withSheet(0, 0, 0), x -> x.decode(1, -1, 0));
        Edges.refused(BAD, () -> withSheet(0, 0, 0), x -> x.decode(1, 3, 0));
        Edges.refused(BAD, () -> withSheet(0, 0, 0), x -> x.decode(1, Edges.FAR, 0));
    }

    // BAD is named ahead of NULL
    static void promise29BadAheadOfNull() {
        Edges.refused(BAD, () -> withSheet(0, 0, 0), x -> x.decode(0, 3, 0));
        Edges.refused(BAD, () -> withSheet(0, 0, 0), x -> x.decode(2, -1, -1));
    }

    static void promise29OfASheetThatHoldsNothing() {
        Edges.refused(NULL, () -> withSheet(0, 0, 0), x -> x.decode(0, 1, 0));
        Edges.refused(NULL, () -> withSheet(0, 0, 0), x -> x.decode(2, 0, 0));
    }

    // NULL is named ahead of INDEX and NOT
    static void promise29NullAheadOfIndexAndNot() {
        Edges.refused(NULL, () -> withSheet(0, 0, 0), x -> x.decode(0, 1, -1));
        Edges.refused(NULL, () -> Made.road(1, 3, 0, 2), x -> x.decode(0, 1, 99));
        Edges.refused(NULL, () -> Made.straight(1), x -> x.decode(0, 1, 0));
    }

    static void promise29OfAnotherLane() {
        Edges.refused(CAST, () -> withSheet(0, 0, 0), x -> x.decode(1, 0, 0));
        Edges.refused(CAST, () -> withSheet(0, 0, 0), x -> x.decode(1, 2, 0));
    }

    // CAST is named ahead of INDEX and NOT
    static void promise29CastAheadOfIndexAndNot() {
        Edges.refused(CAST, () -> withSheet(0, 0, 0), x -> x.decode(1, 0, 1));
        Edges.refused(CAST, () -> withSheet(0, 0, 9), x -> x.decode(1, 2, 0));
        Edges.refused(CAST, () -> Made.onSheet(Made.road(1, 3, 0), 0, 0, 0, 0), x -> x.decode(0, 1, -1));
    }

    static void promise29FromBelow0() {
        Edges.refused(INDEX, () -> withSheet(0, 0, 0, 0), x -> x.decode(1, 1, -1));
        Edges.refused(INDEX, () -> withSheet(0, 0, 0, 0), x -> x.decode(1, 1, Edges.FAR_BELOW));
    }

    // "the N - 1 items .. from one on": one too few is left
    static void promise29TooFewItemsAreLeft() {
        Edges.refused(INDEX, () -> withSheet(0, 0, 0), x -> x.decode(1, 1, 1));
        Edges.refused(INDEX, () -> withSheet(0, 0), x -> x.decode(1, 1, 0));
        Edges.refused(INDEX, () -> withSheet(), x -> x.decode(1, 1, 0));
        Edges.refused(INDEX, () -> withSheet(0, 0, 0), x -> x.decode(1, 1, Edges.FAR));
        Edges.refused(INDEX, () -> withSheet(0, 0, 0), x -> x.decode(1, 1, Edges.FAR - 2));
    }

    // INDEX is named ahead of NOT
    static void promise29IndexAheadOfNot() {
        Edges.refused(INDEX, () -> withSheet(9, 9, 9), x -> x.decode(1, 1, 1));
        Edges.refused(INDEX, () -> Made.onSheet(Made.road(1, 3, 0), 0, 0, 0, 0), x -> x.decode(0, 0, 1));
        Edges.refused(INDEX, () -> Made.onSheet(Made.straight(1), 0, 0, 0, 0), x -> x.decode(0, 0, -1));
    }

    // "from one on": the first from which there are enough, and the last
    static void promise29JustEnoughItems() {
        LaneWishes first = withSheet(4, 4, 4);
        Edges.due("decode(1, 1, 0)", first.decode(1, 1, 0), 4);
        parents(first, 4, 4, 4, 0);
        LaneWishes last = withSheet(9, 9, 0, 0, 1);
        Edges.due("decode(1, 1, 2)", last.decode(1, 1, 2), 4);
        parents(last, 0, 1, 0, 0);
    }

    static void promise29NotStraight() {
        for (int kind = 1; kind < 3; kind++) {
            int someKind = kind;
            Edges.refused(NOT, () -> Made.onSheet(Made.road(someKind, 3, 0, 2), 0, 0, 0, 0), x -> x.decode(0, 0, 0));
        }
    }

    // "an item is no node": N is one still, N + 1 and -1 are not; the first, the last
    static void promise29AnItemIsNoNode() {
        Edges.refused(NOT, () -> withSheet(5, 0, 0), x -> x.decode(1, 1, 0));
        Edges.refused(NOT, () -> withSheet(0, 0, 5), x -> x.decode(1, 1, 0));
        Edges.refused(NOT, () -> withSheet(-1, 0, 0), x -> x.decode(1, 1, 0));
        Edges.refused(NOT, () -> withSheet(0, 0, -1), x -> x.decode(1, 1, 0));
        Edges.due("0 and N are nodes", withSheet(0, 4, 0).decode(1, 1, 0), 4);
    }

    // items beside those that are asked may be no nodes
    static void promise29OtherItemsDoNotCount() {
        Edges.due(withSheet(-1, 0, 4, 0, 5).decode(1, 1, 1), 4);
    }

    // "N is 1"
    static void promise29OfOnePlace() {
        Edges.refused(NOT, () -> Made.onSheet(Made.straight(1, 1), 0, 0, 0, 0), x -> x.decode(0, 0, 0));
        Edges.refused(NOT, () -> Made.onSheet(Made.straight(1, 1), 0, 0), x -> x.decode(0, 0, 0));
        Edges.refused(NOT, () -> Made.onSheet(Made.road(1, 1, 0, 1), 0, 0), x -> x.decode(0, 0, 0));
    }

    // of N = 1 no items are asked; the end itself can be had, what is beyond it not
    static void promise29OfOnePlaceFromTheEnd() {
        Edges.refused(NOT, () -> Made.onSheet(Made.straight(1, 1), 0, 0, 7, 7), x -> x.decode(0, 0, 2));
        Edges.refused(INDEX, () -> Made.onSheet(Made.straight(1, 1), 0, 0, 7, 7), x -> x.decode(0, 0, 3));
    }

    // the shortest and the longest code; the cars that were there are gone, the new ones are of LENGTH 1
    static void promise29TheShortestAndTheLongestCode() {
        LaneWishes two = Made.onSheet(Made.withLength(Made.straight(2, 2), 1, 2), 0, 2, 2);
        Edges.due("decode", two.decode(0, 2, 0), 2);
        Edges.wishes(two, 2, 1);
        Edges.due("told(1, 1)", two.told(1, 1), 1);
        LaneWishes ten = Made.onSheet(Made.straight(10), 3, 0, 2, 3, 4, 5, 6, 7, 8, 9, 10);
        Edges.due("decode", ten.decode(3, 0, 0), 10);
        Edges.wishes(ten, 10, 9, 8, 7, 6, 5, 4, 3, 2, 1);
    }

    // ---- Promise 30: grow

    static void promise30SheetBelow0OrAbove3() {
        Edges.refused(BAD, () -> withSheet(0, 0, 0, 0), x -> x.grow(-1, 1, 0));
        Edges.refused(BAD, () -> withSheet(0, 0, 0, 0), x -> x.grow(4, 1, 0));
        Edges.refused(BAD, () -> withSheet(0, 0, 0, 0), x -> x.grow(Edges.FAR, 1, 0));
        Edges.refused(BAD, () -> withSheet(0, 0, 0, 0), x -> x.grow(Edges.FAR_BELOW, 1, 0));
    }

    static void promise30LaneBelow0OrAbove2() {
        Edges.refused(BAD, () -> withSheet(0, 0, 0, 0), x -> x.grow(1, -1, 0));
        Edges.refused(BAD, () -> withSheet(0, 0, 0, 0), x -> x.grow(1, 3, 0));
    }

    static void promise30BadAheadOfNull() {
        Edges.refused(BAD, () -> withSheet(0, 0, 0, 0), x -> x.grow(0, 3, 0));
        Edges.refused(BAD, () -> withSheet(0, 0, 0, 0), x -> x.grow(0, -1, -1));
    }

    static void promise30OfASheetThatHoldsNothing() {
        Edges.refused(NULL, () -> withSheet(0, 0, 0, 0), x -> x.grow(0, 1, 0));
        Edges.refused(NULL, () -> withSheet(0, 0, 0, 0), x -> x.grow(3, 0, 0));
    }

    static void promise30NullAheadOfIndexAndNot() {
        Edges.refused(NULL, () -> withSheet(0, 0, 0, 0), x -> x.grow(0, 1, -1));
        Edges.refused(NULL, () -> Made.road(1, 3, 0, 2), x -> x.grow(0, 1, 99));
    }

    static void promise30OfAnotherLane() {
        Edges.refused(CAST, () -> withSheet(0, 0, 0, 0), x -> x.grow(1, 0, 0));
        Edges.refused(CAST, () -> withSheet(0, 0, 0, 0), x -> x.grow(1, 2, 0));
    }

    static void promise30CastAheadOfIndexAndNot() {
        Edges.refused(CAST, () -> withSheet(0, 0, 0, 0), x -> x.grow(1, 0, 1));
        Edges.refused(CAST, () -> withSheet(0, 0, 0, 9), x -> x.grow(1, 2, 0));
        Edges.refused(CAST, () -> Made.onSheet(Made.road(1, 2, 0), 0, 0, 0, 0), x -> x.grow(0, 1, -1));
    }

    static void promise30FromBelow0() {
        Edges.refused(INDEX, () -> withSheet(0, 0, 0, 0, 0), x -> x.grow(1, 1, -1));
        Edges.refused(INDEX, () -> withSheet(0, 0, 0, 0, 0), x -> x.grow(1, 1, Edges.FAR_BELOW));
    }

    // "(N, from one on)": one too few is left
    static void promise30TooFewItemsAreLeft() {
        Edges.refused(INDEX, () -> withSheet(0, 0, 0, 0), x -> x.grow(1, 1, 1));
        Edges.refused(INDEX, () -> withSheet(0, 0, 0), x -> x.grow(1, 1, 0));
        Edges.refused(INDEX, () -> withSheet(), x -> x.grow(1, 1, 0));
        Edges.refused(INDEX, () -> withSheet(0, 0, 0, 0), x -> x.grow(1, 1, Edges.FAR));
        Edges.refused(INDEX, () -> withSheet(0, 0, 0, 0), x -> x.grow(1, 1, Edges.FAR - 3));
    }

    static void promise30IndexAheadOfNot() {
        Edges.refused(INDEX, () -> withSheet(9, 9, 9, 9), x -> x.grow(1, 1, 1));
        Edges.refused(INDEX, () -> Made.onSheet(Made.road(2, 2, 0), 0, 0, 0, 0), x -> x.grow(0, 0, 1));
    }

    static void promise30JustEnoughItems() {
        LaneWishes first = withSheet(0, 1, 2, 3);
        Edges.due("grow(1, 1, 0)", first.grow(1, 1, 0), 4);
        parents(first, 0, 1, 2, 3);
        LaneWishes last = withSheet(9, 9, 4, 4, 0, 0);
        Edges.due("grow(1, 1, 2)", last.grow(1, 1, 2), 4);
        parents(last, 4, 4, 0, 0);
    }

    static void promise30NotStraight() {
        for (int kind = 1; kind < 3; kind++) {
            int someKind = kind;
            Edges.refused(NOT, () -> Made.onSheet(Made.road(someKind, 2, 0, 2), 0, 0, 0, 0), x -> x.grow(0, 0, 0));
        }
    }

    // "an item is no node"
    static void promise30AnItemIsNoNode() {
        Edges.refused(NOT, () -> withSheet(5, 0, 0, 0), x -> x.grow(1, 1, 0));
        Edges.refused(NOT, () -> withSheet(0, 0, 0, 5), x -> x.grow(1, 1, 0));
        Edges.refused(NOT, () -> withSheet(-1, 0, 0, 0), x -> x.grow(1, 1, 0));
        Edges.refused(NOT, () -> withSheet(0, 0, 0, -1), x -> x.grow(1, 1, 0));
        Edges.due("0 and N are nodes", withSheet(4, 0, 4, 0).grow(1, 1, 0), 4);
    }

    static void promise30OtherItemsDoNotCount() {
        Edges.due(withSheet(-1, 0, 0, 0, 0, 5).grow(1, 1, 1), 4);
    }

    // "(a node is below itself)": its own child, one of two, one of all; beside a tree of the others
    static void promise30ANodeIsBelowItself() {
        Edges.refused(NOT, () -> withSheet(1, 0, 0, 0), x -> x.grow(1, 1, 0));
        Edges.refused(NOT, () -> withSheet(0, 0, 0, 4), x -> x.grow(1, 1, 0));
        Edges.refused(NOT, () -> withSheet(2, 1, 0, 0), x -> x.grow(1, 1, 0));
        Edges.refused(NOT, () -> withSheet(0, 1, 4, 3), x -> x.grow(1, 1, 0));
        Edges.refused(NOT, () -> withSheet(2, 3, 4, 1), x -> x.grow(1, 1, 0));
        Edges.refused(NOT, () -> Made.onSheet(Made.straight(1, 1), 0, 0, 1), x -> x.grow(0, 0, 0));
    }

    // of one place: one parent, the root
    static void promise30TheShortestAndTheLongestRow() {
        LaneWishes one = Made.onSheet(Made.withLength(Made.straight(1, 1), 1, 4), 2, 2, 0);
        Edges.due("grow", one.grow(2, 2, 0), 1);
        Edges.wishes(one, 1);
        Edges.due("told(1, 1)", one.told(1, 1), 1);
        LaneWishes ten = Made.onSheet(Made.straight(10, 3), 3, 0, 2, 3, 4, 5, 6, 7, 8, 9, 10, 0);
        Edges.due("grow", ten.grow(3, 0, 0), 10);
        Edges.wishes(ten, 10, 9, 8, 7, 6, 5, 4, 3, 2, 1);
    }

    // ---- Promise 31: walk

    static void promise31JBelow1() {
        Edges.refused(BAD, EdgesOfTreesTest::three, x -> x.walk(0, 0));
        Edges.refused(BAD, EdgesOfTreesTest::three, x -> x.walk(Edges.FAR_BELOW, 0));
    }

    static void promise31JAboveN() {
        Edges.refused(BAD, EdgesOfTreesTest::three, x -> x.walk(4, 0));
        Edges.refused(BAD, EdgesOfTreesTest::three, x -> x.walk(Edges.FAR, 0));
    }

    static void promise31WhatBelow0() {
        Edges.refused(BAD, EdgesOfTreesTest::three, x -> x.walk(1, -1));
        Edges.refused(BAD, EdgesOfTreesTest::three, x -> x.walk(1, Edges.FAR_BELOW));
    }

    static void promise31WhatAbove1() {
        Edges.refused(BAD, EdgesOfTreesTest::three, x -> x.walk(1, 2));
        Edges.refused(BAD, EdgesOfTreesTest::three, x -> x.walk(1, Edges.FAR));
    }

    static void promise31BadAheadOfNot() {
        badAheadOfNot(x -> x.walk(0, 0));
        badAheadOfNot(x -> x.walk(6, 0));
        badAheadOfNot(x -> x.walk(1, 2));
        badAheadOfNot(x -> x.walk(1, -1));
    }

    static void promise31NotPlain() {
        Edges.refusedInAll(NOT, Made.notPlain(), x -> x.walk(1, 0));
    }

    static void promise31NotGood() {
        Edges.refusedInAll(NOT, Made.notGood(), x -> x.walk(1, 1));
    }

    // less than N cars: a place up to N is none that is BAD, though no car has it
    static void promise31NotNCars() {
        Edges.refused(NOT, () -> Made.straight(3, 1, 2), x -> x.walk(1, 0));
        Edges.refused(NOT, () -> Made.straight(3, 1, 2), x -> x.walk(3, 0));
        Edges.refused(NOT, () -> Made.straight(3), x -> x.walk(3, 1));
    }

    // "Place j (1 .. N)": the first, the last
    static void promise31TheFirstAndTheLast() {
        Edges.due("the first", chain(10).walk(1, 0), 10);
        Edges.due("the last", chain(10).walk(10, 0), 1);
        Edges.due("one place", Made.straight(1, 1).walk(1, 0), 1);
        Edges.due("one place", Made.straight(1, 1).walk(1, 1), 0);
    }

    // ---- Promise 32: counts

    static void promise32WhatBelow0() {
        Edges.refused(BAD, EdgesOfTreesTest::three, x -> x.counts(-1));
        Edges.refused(BAD, EdgesOfTreesTest::three, x -> x.counts(Edges.FAR_BELOW));
    }

    static void promise32WhatAbove1() {
        Edges.refused(BAD, EdgesOfTreesTest::three, x -> x.counts(2));
        Edges.refused(BAD, EdgesOfTreesTest::three, x -> x.counts(Edges.FAR));
    }

    static void promise32BadAheadOfNot() {
        badAheadOfNot(x -> x.counts(-1));
        badAheadOfNot(x -> x.counts(2));
    }

    static void promise32NotPlain() {
        Edges.refusedInAll(NOT, Made.notPlain(), x -> x.counts(0));
        Edges.refusedInAll(NOT, Made.notPlain(), x -> x.counts(1));
    }

    static void promise32NotGood() {
        Edges.refusedInAll(NOT, Made.notGood(), x -> x.counts(0));
        Edges.refusedInAll(NOT, Made.notGood(), x -> x.counts(1));
    }

    static void promise32NotNCars() {
        Edges.refusedInAll(NOT, Made.few(), x -> x.counts(0));
        Edges.refusedInAll(NOT, Made.few(), x -> x.counts(1));
    }

    static void promise32NoneAndTheMost() {
        Edges.due("AREA of one", Made.straight(1, 1).counts(0), 0);
        Edges.due("DINV of one", Made.straight(1, 1).counts(1), 0);
        LaneWishes rising = chain(10);
        rising.rise();
        Edges.due("AREA of 1 2 .. N", rising.counts(0), 0);
        Edges.due("DINV of 1 2 .. N", rising.counts(1), 45);
        Edges.due("AREA of ones", star(10).counts(0), 45);
        Edges.due("DINV of ones", star(10).counts(1), 0);
    }

    // ---- Promise 33: both

    static void promise33NBelow1() {
        Edges.refused(BAD, EdgesOfTreesTest::three, x -> x.both(0, 0, 0));
        Edges.refused(BAD, EdgesOfTreesTest::three, x -> x.both(Edges.FAR_BELOW, 0, 0));
    }

    static void promise33NAbove5() {
        Edges.refused(BAD, EdgesOfTreesTest::three, x -> x.both(6, 0, 0));
        Edges.refused(BAD, EdgesOfTreesTest::three, x -> x.both(Edges.FAR, 0, 0));
    }

    // BAD stands for n alone, and is named whatever a and d are
    static void promise33BadOfNAlone() {
        Edges.refused(BAD, EdgesOfTreesTest::three, x -> x.both(6, -1, 99));
        int[] none = {-1, 11, 99, Edges.FAR, Edges.FAR_BELOW};
        LaneWishes x = new LaneWishes();
        for (int value : none) {
            for (int n = 1; n <= 5; n++) {
                Edges.due("both(" + n + ", " + value + ", 0)", x.both(n, value, 0), 0);
                Edges.due("both(" + n + ", 0, " + value + ")", x.both(n, 0, value), 0);
            }
        }
    }

    // "n 1 .. 5": the least and the greatest
    static void promise33OfOneAndOfFive() {
        LaneWishes x = new LaneWishes();
        Edges.due("both(1, 0, 0)", x.both(1, 0, 0), 1);
        Edges.due("both(1, 1, 0)", x.both(1, 1, 0), 0);
        Edges.due("both(1, 0, 1)", x.both(1, 0, 1), 0);
        Edges.due("both(5, 10, 0)", x.both(5, 10, 0), 1);
        Edges.due("both(5, 0, 10)", x.both(5, 0, 10), 1);
        Edges.due("both(5, 0, 0)", x.both(5, 0, 0), 1);
        Edges.due("both(5, 10, 1)", x.both(5, 10, 1), 0);
        Edges.due("both(5, 0, 11)", x.both(5, 0, 11), 0);
    }

    // "n CARS on n PLACES": of any road, which stays as it is, and asked again it is the same
    static void promise33WhateverTheRoadIs() {
        List<Supplier<LaneWishes>> roads = List.of(() -> Made.road(1, 1, 0), () -> Made.road(2, 10, 9, 10, 10),
            EdgesOfTreesTest::three);
        for (Supplier<LaneWishes> road : roads) {
            Edges.refused(1, road, x -> x.both(2, 1, 0));
            Edges.refused(1, road, x -> x.both(2, 1, 0) * x.both(5, 10, 0) * x.both(2, 1, 0));
        }
    }
}
