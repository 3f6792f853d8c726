/**
 * Cars along a lane: each drives to the place it likes, and on to the first that is free.
 * The document of the project (DOC.md) says what each call answers; refusals are answers.
 *
 * <p>All arrays are made with the object and used again, so that no call makes anything.
 * Cars, places and rows of wishes are told from 1 on: element 0 of their arrays is unused.
 */
public final class LaneWishes {
    public static final int BAD = -1, NOT = -2, FULL = -3, NONE = -4, NULL = -11, CAST = -12, INDEX = -13, SIZE = -14;

    private static final int STRAIGHT = 0, ROUND = 1, BACKING = 2;
    private static final int MOST_PLACES = 10, FIRST_PLACES = 5, MOST_BACK = 9, MOST_LENGTH = 4;
    private static final int MOST_ROWS = 100000;
    private static final int MOST_BOTH = 5, MOST_PAIRS = 10;
    private static final int MOST_GOES = 45;
    private static final int SHEETS = 4, LAST_LANE = 2, MOST_ITEMS = 20;
    private static final int FINE = 0;

    private final Road road;
    private final Masks masks;
    private final Book book;
    private final RisingBook risingBook;
    private final Tree tree;
    private final Walk path;
    private final Pairs pairs;
    private final Spreads spreads;
    private final Sheets sheets;
    private final int[] row;

    public LaneWishes() {
        Choices choices = new Choices();
        road = new Road();
        masks = new Masks();
        book = new Book(choices);
        risingBook = new RisingBook();
        tree = new Tree();
        path = new Walk();
        pairs = new Pairs();
        spreads = new Spreads(choices);
        sheets = new Sheets();
        row = new int[MOST_PLACES + 1];
    }

    // ---- 1 cars

    public int road(int kind, int n, int b) {
        if (kind < STRAIGHT || kind > BACKING || n < 1 || n > MOST_PLACES) {
            return BAD;
        }
        // b counts for BACKING alone, so no other road is refused for it
        if (kind == BACKING && (b < 0 || b > MOST_BACK)) {
            return BAD;
        }
        road.lay(kind, n, b);
        return 1;
    }

    public int car(int wish) {
        if (!road.hasPlace(wish)) {
            return BAD;
        }
        if (road.k >= road.n) {
            return FULL;
        }
        road.add(wish);
        road.settle();
        return road.k;
    }

    public int wish(int car, int v) {
        if (!road.hasCar(car) || !road.hasPlace(v)) {
            return BAD;
        }
        int was = road.wish[car];
        road.wish[car] = v;
        road.settle();
        return was;
    }

    public int length(int car, int v) {
        if (!road.hasCar(car) || v < 1 || v > MOST_LENGTH) {
            return BAD;
        }
        int was = road.length[car];
        road.length[car] = v;
        road.settle();
        return was;
    }

    public int undo() {
        if (road.k == 0) {
            return NOT;
        }
        road.leaveOnly(road.k - 1);
        return road.k;
    }

    public int clear() {
        int were = road.k;
        road.leaveOnly(0);
        return were;
    }

    public int told(int car, int what) {
        if (!road.hasCar(car)) {
            return BAD;
        }
        switch (what) {
            case 0:
                return road.wish[car];
            case 1:
                return road.length[car];
            case 2:
                return road.comesIn(car) ? road.at[car] : NONE;
            case 3:
                return road.comesIn(car) ? road.far(car) : NONE;
            case 4:
                return road.isLucky(car) ? 1 : 0;
            default:
                return BAD;
        }
    }

    public int on(int place) {
        return road.hasPlace(place) ? road.carOn(place) : BAD;
    }

    public int count(int what) {
        switch (what) {
            case 0:
                return road.n;
            case 1:
                return road.k;
            case 2:
                return road.howManyIn();
            case 3:
                return road.k - road.howManyIn();
            case 4:
                return road.howManyLucky();
            case 5:
                return road.farOfAll();
            case 6:
                return road.farthest();
            case 7:
                return road.n - Integer.bitCount(road.taken);
            default:
                return BAD;
        }
    }

    public int good() {
        return road.allIn() ? 1 : 0;
    }

    public int ways() {
        return road.hasFewRows() ? masks.goodRows(road) : NOT;
    }

    // ---- 2 rows in order

    public long rows(int k) {
        return isRowSize(k) ? book.howMany(road.n, k) : BAD;
    }

    public long rank() {
        return isPlainGood() ? book.numberOf(road.wish, road.n, road.k) : NOT;
    }

    public int unrank(int k, long r) {
        if (!isRowSize(k) || r < 0 || r >= book.howMany(road.n, k)) {
            return BAD;
        }
        if (road.kind != STRAIGHT) {
            return NOT;
        }
        book.fillRow(row, road.n, k, r);
        road.take(row, k);
        return k;
    }

    public int next() {
        if (!isPlainGood()) {
            return NOT;
        }
        if (!book.stepOn(road.wish, road.n, road.k)) {
            return NONE;
        }
        road.settle();
        return 1;
    }

    public long like() {
        return isPlainGood() ? road.rowsLikeIt() : NOT;
    }

    public long orders() {
        return road.kind == STRAIGHT ? road.ordersOfWishes() : NOT;
    }

    public int rise() {
        int changed = road.sortWishes();
        road.settle();
        return changed;
    }

    public long risings(int k) {
        return isRowSize(k) ? risingBook.howMany(road.n, k) : BAD;
    }

    public long riseRank() {
        if (!isPlainGood() || !road.isRising()) {
            return NOT;
        }
        return risingBook.numberOf(road.wish, road.n, road.k);
    }

    public int riseUnrank(int k, long r) {
        if (!isRowSize(k) || r < 0 || r >= risingBook.howMany(road.n, k)) {
            return BAD;
        }
        if (road.kind != STRAIGHT) {
            return NOT;
        }
        risingBook.fillRow(row, road.n, k, r);
        road.take(row, k);
        return k;
    }

    public int cuts() {
        return hasTree() ? road.cutBits() : NOT;
    }

    public long primes() {
        return book.primeRows(road.n);
    }

    public int mend() {
        if (!road.isPlain() || road.k != road.n) {
            return NOT;
        }
        int changed = road.mendWishes();
        road.settle();
        return changed;
    }

    // ---- 3 trees, codes, walks

    public int node(int car, int what) {
        if (!road.hasCar(car) || what < 0 || what > 4) {
            return BAD;
        }
        if (!hasTree()) {
            return NOT;
        }
        tree.build(road.wish, road.n);
        switch (what) {
            case 0:
                return tree.parent[car];
            case 1:
                return tree.depth[car];
            case 2:
                return tree.children[car];
            case 3:
                return tree.below[car];
            default:
                return tree.seenAs[car];
        }
    }

    public int inv() {
        if (!hasTree()) {
            return NOT;
        }
        tree.build(road.wish, road.n);
        return tree.inversions();
    }

    public int code(int i) {
        if (i < 0 || i > road.n - 2) {
            return BAD;
        }
        if (!hasTree()) {
            return NOT;
        }
        tree.build(road.wish, road.n);
        return tree.codeNumber(i);
    }

    public int decode(int sheet, int lane, int from) {
        int size = road.n - 1;
        int refusal = sheets.refusal(sheet, lane, from, size);
        if (refusal != FINE) {
            return refusal;
        }
        if (road.kind != STRAIGHT || size == 0 || !sheets.allWithin(sheet, from, size, 0, road.n)) {
            return NOT;
        }
        sheets.copyTo(row, sheet, from, size);
        tree.parentsOfCode(row, road.n);
        tree.wishesOfParents(row);
        road.take(row, road.n);
        return road.n;
    }

    public int grow(int sheet, int lane, int from) {
        int size = road.n;
        int refusal = sheets.refusal(sheet, lane, from, size);
        if (refusal != FINE) {
            return refusal;
        }
        if (road.kind != STRAIGHT || !sheets.allWithin(sheet, from, size, 0, size)) {
            return NOT;
        }
        sheets.copyTo(row, sheet, from, size);
        tree.takeParents(row, size);
        if (!tree.wishesOfParents(row)) {
            return NOT;
        }
        road.take(row, size);
        return size;
    }

    public int walk(int j, int what) {
        if (!road.hasPlace(j) || what < 0 || what > 1) {
            return BAD;
        }
        if (!hasTree()) {
            return NOT;
        }
        path.build(road.wish, road.n);
        return what == 0 ? path.car[j] : path.height[j];
    }

    public int counts(int what) {
        if (what < 0 || what > 1) {
            return BAD;
        }
        if (!hasTree()) {
            return NOT;
        }
        path.build(road.wish, road.n);
        return what == 0 ? path.area() : path.dinv();
    }

    public int both(int n, int a, int d) {
        if (n < 1 || n > MOST_BOTH) {
            return BAD;
        }
        if (a < 0 || a > MOST_PAIRS || d < 0 || d > MOST_PAIRS) {
            return 0;
        }
        pairs.fill(n, book, path);
        return pairs.rowsWith(n, a, d);
    }

    // ---- 4 spreads

    public long spread(int what, int n, int v) {
        if (n < 1 || n > MOST_PLACES) {
            return BAD;
        }
        switch (what) {
            case 0:
                return spreads.withGoes(n, v);
            case 1:
                return spreads.withLucky(n, v);
            case 2:
                return spreads.withLastAt(n, v);
            case 3:
                return spreads.withFirstWish(n, v);
            case 4:
                return spreads.withOnes(n, v);
            case 5:
                return spreads.withCuts(n, v);
            default:
                return BAD;
        }
    }

    // ---- 5 sheets

    public int sheet(int sheet, int lane, int n) {
        if (!sheets.hasSheet(sheet) || !sheets.hasLane(lane) || n > MOST_ITEMS) {
            return BAD;
        }
        if (n < 0) {
            return SIZE;
        }
        sheets.renew(sheet, lane, n);
        return n;
    }

    public int drop(int sheet) {
        if (!sheets.hasSheet(sheet)) {
            return BAD;
        }
        return sheets.holdsNothing(sheet) ? NULL : sheets.remove(sheet);
    }

    public int item(int sheet, int lane, int i, int v) {
        int refusal = sheets.refusal(sheet, lane, i, 1);
        if (refusal != FINE) {
            return refusal;
        }
        sheets.put(sheet, i, v);
        return 1;
    }

    public int cars(int sheet, int lane, int from, int n) {
        if (n < 0 || n > MOST_PLACES) {
            return BAD;
        }
        int refusal = sheets.refusal(sheet, lane, from, n);
        if (refusal != FINE) {
            return refusal;
        }
        if (!sheets.allWithin(sheet, from, n, 1, road.n)) {
            return NOT;
        }
        if (road.k + n > road.n) {
            return FULL;
        }
        sheets.copyTo(row, sheet, from, n);
        for (int i = 1; i <= n; i++) {
            road.add(row[i]);
        }
        road.settle();
        return road.k;
    }

    public int keep(int sheet, int lane, int from) {
        int refusal = sheets.refusal(sheet, lane, from, road.k);
        if (refusal != FINE) {
            return refusal;
        }
        for (int car = 1; car <= road.k; car++) {
            sheets.put(sheet, from + car - 1, road.wish[car]);
        }
        return road.k;
    }

    private boolean isRowSize(int k) {
        return k >= 0 && k <= road.n;
    }

    private boolean isPlainGood() {
        return road.isPlain() && road.allIn();
    }

    private boolean hasTree() {
        return road.k == road.n && isPlainGood();
    }

    private static long power(long base, int exponent) {
        long product = 1;
        for (int i = 0; i < exponent; i++) {
            product *= base;
        }
        return product;
    }

    /** The road and its cars. Sets of places are bits: place p is bit p - 1. */
    private static final class Road {
        int kind = STRAIGHT;
        int n = FIRST_PLACES;
        int back = 0;
        int k = 0;
        int taken = 0;
        final int[] wish = new int[MOST_PLACES + 1];
        final int[] length = new int[MOST_PLACES + 1];
        /** 0: the car leaves. */
        final int[] at = new int[MOST_PLACES + 1];
        final int[] body = new int[MOST_PLACES + 1];
        private final int[] oldWish = new int[MOST_PLACES + 1];

        void lay(int newKind, int places, int b) {
            kind = newKind;
            n = places;
            back = b;
            leaveOnly(0);
        }

        /** The caller sees to it that there is room, and settles when all have come. */
        void add(int newWish) {
            k++;
            wish[k] = newWish;
            length[k] = 1;
        }

        void leaveOnly(int left) {
            k = left;
            settle();
        }

        void take(int[] wishes, int size) {
            k = 0;
            for (int i = 1; i <= size; i++) {
                add(wishes[i]);
            }
            settle();
        }

        /** Whatever changes the road or a car ends here: one that leaves or moves can move all behind it. */
        void settle() {
            taken = 0;
            for (int car = 1; car <= k; car++) {
                int place = firstFree(taken, wish[car]);
                body[car] = bodyAt(taken, place, length[car]);
                at[car] = body[car] == 0 ? 0 : place;
                taken |= body[car];
            }
        }

        boolean isFree(int full, int place) {
            return (full >> (place - 1) & 1) == 0;
        }

        /** 0 if there is none. */
        int firstFree(int full, int from) {
            if (kind == BACKING && !isFree(full, from)) {
                for (int p = from - 1; p >= 1 && p >= from - back; p--) {
                    if (isFree(full, p)) {
                        return p;
                    }
                }
            }
            for (int p = from; p <= n; p++) {
                if (isFree(full, p)) {
                    return p;
                }
            }
            for (int p = 1; kind == ROUND && p < from; p++) {
                if (isFree(full, p)) {
                    return p;
                }
            }
            return 0;
        }

        /** The bits that a car takes from its first place on; 0 if it must leave. */
        int bodyAt(int full, int place, int size) {
            // a car longer than a round road would need a place twice
            if (place == 0 || size > n) {
                return 0;
            }
            int bits = 0;
            for (int p = place; p < place + size; p++) {
                if (p > n && kind != ROUND) {
                    return 0;
                }
                int onRoad = p > n ? p - n : p;
                if (!isFree(full, onRoad)) {
                    return 0;
                }
                bits |= 1 << (onRoad - 1);
            }
            return bits;
        }

        boolean hasPlace(int place) {
            return place >= 1 && place <= n;
        }

        boolean hasCar(int car) {
            return car >= 1 && car <= k;
        }

        boolean comesIn(int car) {
            return at[car] != 0;
        }

        boolean isLucky(int car) {
            return at[car] == wish[car];
        }

        int far(int car) {
            int ahead = at[car] - wish[car];
            if (ahead >= 0) {
                return ahead;
            }
            return kind == ROUND ? ahead + n : -ahead;
        }

        int carOn(int place) {
            for (int car = 1; car <= k; car++) {
                if (!isFree(body[car], place)) {
                    return car;
                }
            }
            return NONE;
        }

        int howManyIn() {
            int in = 0;
            for (int car = 1; car <= k; car++) {
                if (comesIn(car)) {
                    in++;
                }
            }
            return in;
        }

        int howManyLucky() {
            int lucky = 0;
            for (int car = 1; car <= k; car++) {
                if (isLucky(car)) {
                    lucky++;
                }
            }
            return lucky;
        }

        int farOfAll() {
            int all = 0;
            for (int car = 1; car <= k; car++) {
                if (comesIn(car)) {
                    all += far(car);
                }
            }
            return all;
        }

        int farthest() {
            int most = 0;
            for (int car = 1; car <= k; car++) {
                if (comesIn(car)) {
                    most = Math.max(most, far(car));
                }
            }
            return most;
        }

        boolean allIn() {
            return howManyIn() == k;
        }

        boolean isPlain() {
            for (int car = 1; car <= k; car++) {
                if (length[car] != 1) {
                    return false;
                }
            }
            return kind == STRAIGHT;
        }

        boolean isRising() {
            for (int car = 2; car <= k; car++) {
                if (wish[car] < wish[car - 1]) {
                    return false;
                }
            }
            return true;
        }

        boolean hasFewRows() {
            int rows = 1;
            for (int car = 1; car <= k && rows <= MOST_ROWS; car++) {
                rows *= n;
            }
            return rows <= MOST_ROWS;
        }

        /** A car comes to its place from there and from every place of the full stretch behind which it is. */
        long rowsLikeIt() {
            long rows = 1;
            int full = 0;
            for (int car = 1; car <= k; car++) {
                int first = at[car];
                while (first > 1 && !isFree(full, first - 1)) {
                    first--;
                }
                rows *= at[car] - first + 1;
                full |= body[car];
            }
            return rows;
        }

        /** The i-th car can be put at i places among those ahead of it; of like ones just each m-th order is new. */
        long ordersOfWishes() {
            long orders = 1;
            for (int car = 1; car <= k; car++) {
                int alike = 1;
                for (int other = 1; other < car; other++) {
                    if (wish[other] == wish[car]) {
                        alike++;
                    }
                }
                orders = orders * car / alike;
            }
            return orders;
        }

        int wishesUpTo(int place) {
            int wishes = 0;
            for (int car = 1; car <= k; car++) {
                if (wish[car] <= place) {
                    wishes++;
                }
            }
            return wishes;
        }

        int sortWishes() {
            System.arraycopy(wish, 0, oldWish, 0, wish.length);
            int sorted = 0;
            for (int v = 1; v <= n; v++) {
                for (int car = 1; car <= k; car++) {
                    if (oldWish[car] == v) {
                        sorted++;
                        wish[sorted] = v;
                    }
                }
            }
            int changed = 0;
            for (int car = 1; car <= k; car++) {
                if (wish[car] != oldWish[car]) {
                    changed++;
                }
            }
            return changed;
        }

        int cutBits() {
            int bits = 0;
            for (int place = 1; place < n; place++) {
                if (wishesUpTo(place) == place) {
                    bits |= 1 << place;
                }
            }
            return bits;
        }

        /** Each car that wishes 1 then helps every place, so the worst place tells how many must. */
        int mendWishes() {
            int missing = 0;
            for (int place = 1; place <= n; place++) {
                missing = Math.max(missing, place - wishesUpTo(place));
            }
            for (int i = 0; i < missing; i++) {
                wish[lastOfGreatestWish()] = 1;
            }
            return missing;
        }

        private int lastOfGreatestWish() {
            int found = 1;
            for (int car = 2; car <= k; car++) {
                if (wish[car] >= wish[found]) {
                    found = car;
                }
            }
            return found;
        }
    }

    /** Good rows on any road: what a car finds depends on the taken places alone, so rows are counted by these. */
    private static final class Masks {
        private final int[] rows = new int[1 << MOST_PLACES];

        int goodRows(Road road) {
            int end = 1 << road.n;
            for (int full = 0; full < end; full++) {
                rows[full] = 0;
            }
            rows[0] = 1;
            for (int car = 1; car <= road.k; car++) {
                // each car makes the set a greater number: from the greatest down no row is moved twice
                for (int full = end - 1; full >= 0; full--) {
                    if (rows[full] != 0) {
                        moveOn(road, full, road.length[car]);
                    }
                }
            }
            int all = 0;
            for (int full = 0; full < end; full++) {
                all += rows[full];
            }
            return all;
        }

        private void moveOn(Road road, int full, int size) {
            int here = rows[full];
            rows[full] = 0;
            for (int wish = 1; wish <= road.n; wish++) {
                int bits = road.bodyAt(full, road.firstFree(full, wish), size);
                if (bits != 0) {
                    rows[full | bits] += here;
                }
            }
        }
    }

    /** How many sets of so many of so many there are. */
    private static final class Choices {
        private final int[][] table = new int[MOST_PLACES + 1][MOST_PLACES + 1];

        Choices() {
            for (int all = 0; all <= MOST_PLACES; all++) {
                table[all][0] = 1;
                for (int some = 1; some <= all; some++) {
                    table[all][some] = table[all - 1][some - 1] + table[all - 1][some];
                }
            }
        }

        int of(int all, int some) {
            return some < 0 || some > all || all > MOST_PLACES ? 0 : table[all][some];
        }
    }

    /** Plain good rows in order. */
    private static final class Book {
        private final Choices choices;
        private final int[] wishers = new int[MOST_PLACES + 1];
        private final long[] ways = new long[MOST_PLACES + 1];

        Book(Choices someChoices) {
            choices = someChoices;
        }

        long howMany(int n, int k) {
            return k == 0 ? 1 : (n + 1 - k) * power(n + 1, k - 1);
        }

        long primeRows(int n) {
            return power(n - 1, n - 1);
        }

        long numberOf(int[] wish, int n, int k) {
            forgetWishers();
            long number = 0;
            for (int car = 1; car <= k; car++) {
                for (int v = 1; v < wish[car]; v++) {
                    number += rowsWith(v, n, k - car);
                }
                wishers[wish[car]]++;
            }
            return number;
        }

        void fillRow(int[] row, int n, int k, long number) {
            forgetWishers();
            long left = number;
            for (int car = 1; car <= k; car++) {
                int v = 1;
                long passed = rowsWith(v, n, k - car);
                while (left >= passed && v < n) {
                    left -= passed;
                    v++;
                    passed = rowsWith(v, n, k - car);
                }
                row[car] = v;
                wishers[v]++;
            }
        }

        /** Whether there was a next row; a row that is the last stays. */
        boolean stepOn(int[] wish, int n, int k) {
            for (int car = k; car >= 1; car--) {
                if (canWishOneMore(wish, n, car)) {
                    wish[car]++;
                    for (int behind = car + 1; behind <= k; behind++) {
                        wish[behind] = 1;
                    }
                    return true;
                }
            }
            return false;
        }

        /** The cars behind it will wish 1 and always come in: just those ahead that wish more can stand in its way. */
        private boolean canWishOneMore(int[] wish, int n, int car) {
            int more = 1;
            for (int ahead = 1; ahead < car; ahead++) {
                if (wish[ahead] > wish[car]) {
                    more++;
                }
            }
            return more <= n - wish[car];
        }

        private void forgetWishers() {
            for (int place = 0; place <= MOST_PLACES; place++) {
                wishers[place] = 0;
            }
        }

        private long rowsWith(int v, int n, int open) {
            wishers[v]++;
            long rows = endings(n, open);
            wishers[v]--;
            return rows;
        }

        /**
         * In how many ways open cars can wish behind those that have wished, so that all come in: from
         * each place on there must be no more wishes than places.
         */
        private long endings(int n, int open) {
            for (int some = 1; some <= open; some++) {
                ways[some] = 0;
            }
            ways[0] = 1;
            int room = 0;
            for (int place = n; place >= 1; place--) {
                room += 1 - wishers[place];
                for (int some = open; some >= 0; some--) {
                    ways[some] = some > room ? 0 : wishHere(some, open);
                }
            }
            return ways[open];
        }

        private long wishHere(int some, int open) {
            long sum = 0;
            for (int before = 0; before <= some; before++) {
                sum += ways[before] * choices.of(open - before, some - before);
            }
            return sum;
        }
    }

    /** Rising plain good rows in order: the i-th of k wishes is at most n - k + i. */
    private static final class RisingBook {
        /** Element [i][v]: in how many ways the i-th wish and those behind it can be, if none is less than v. */
        private final long[][] endings = new long[MOST_PLACES + 2][MOST_PLACES + 2];

        long howMany(int n, int k) {
            fillEndings(n, k);
            return endings[1][1];
        }

        long numberOf(int[] wish, int n, int k) {
            fillEndings(n, k);
            long number = 0;
            int least = 1;
            for (int i = 1; i <= k; i++) {
                for (int v = least; v < wish[i]; v++) {
                    number += endings[i + 1][v];
                }
                least = wish[i];
            }
            return number;
        }

        void fillRow(int[] row, int n, int k, long number) {
            fillEndings(n, k);
            long left = number;
            int v = 1;
            for (int i = 1; i <= k; i++) {
                while (left >= endings[i + 1][v] && v < n - k + i) {
                    left -= endings[i + 1][v];
                    v++;
                }
                row[i] = v;
            }
        }

        private void fillEndings(int n, int k) {
            for (int v = 1; v <= n + 1; v++) {
                endings[k + 1][v] = 1;
            }
            for (int i = k; i >= 1; i--) {
                for (int v = n + 1; v >= 1; v--) {
                    endings[i][v] = v > n - k + i ? 0 : endings[i][v + 1] + endings[i + 1][v];
                }
            }
        }
    }

    /** The tree of a plain good row of n cars, with its code. */
    private static final class Tree {
        private int n = 0;
        final int[] parent = new int[MOST_PLACES + 1];
        final int[] depth = new int[MOST_PLACES + 1];
        final int[] children = new int[MOST_PLACES + 1];
        final int[] below = new int[MOST_PLACES + 1];
        final int[] seenAs = new int[MOST_PLACES + 1];
        /** Element i: the node that is seen as the i-th. */
        private final int[] seen = new int[MOST_PLACES + 2];
        private final int[] neighbours = new int[MOST_PLACES + 1];

        void build(int[] wish, int cars) {
            n = cars;
            for (int node = 0; node <= n; node++) {
                children[node] = 0;
                below[node] = 0;
            }
            hangCars(wish);
            for (int i = n + 1; i >= 2; i--) {
                below[parent[seen[i]]] += below[seen[i]] + 1;
            }
        }

        private void hangCars(int[] wish) {
            seen[1] = 0;
            depth[0] = 0;
            int last = 1;
            for (int i = 1; i <= n; i++) {
                for (int car = 1; car <= n; car++) {
                    if (wish[car] == i) {
                        last++;
                        seen[last] = car;
                        seenAs[car] = last;
                        parent[car] = seen[i];
                        depth[car] = depth[seen[i]] + 1;
                        children[seen[i]]++;
                    }
                }
            }
        }

        int inversions() {
            int pairs = 0;
            for (int car = 1; car <= n; car++) {
                int above = parent[car];
                for (int up = 1; up < depth[car]; up++) {
                    if (above > car) {
                        pairs++;
                    }
                    above = parent[above];
                }
            }
            return pairs;
        }

        /** The root is the least node and there are always two with one neighbour, so it is never struck. */
        int codeNumber(int i) {
            neighbours[0] = children[0];
            for (int node = 1; node <= n; node++) {
                neighbours[node] = children[node] + 1;
            }
            int number = 0;
            for (int step = 0; step <= i; step++) {
                number = parent[greatestWithOne()];
                strike(greatestWithOne(), number);
            }
            return number;
        }

        /** Of a code (elements 1 .. cars - 1); as the root is never struck, a struck node's neighbour is its parent. */
        void parentsOfCode(int[] code, int cars) {
            n = cars;
            for (int node = 0; node <= n; node++) {
                neighbours[node] = 1;
            }
            for (int i = 1; i < n; i++) {
                neighbours[code[i]]++;
            }
            for (int i = 1; i < n; i++) {
                int struck = greatestWithOne();
                parent[struck] = code[i];
                strike(struck, code[i]);
            }
            parent[greatestWithOne()] = 0;
        }

        private int greatestWithOne() {
            for (int node = n; node > 0; node--) {
                if (neighbours[node] == 1) {
                    return node;
                }
            }
            return 0;
        }

        private void strike(int node, int neighbour) {
            neighbours[node] = 0;
            neighbours[neighbour]--;
        }

        void takeParents(int[] parents, int cars) {
            n = cars;
            for (int car = 1; car <= n; car++) {
                parent[car] = parents[car];
            }
        }

        /** Whether every node hangs below the root: else the parents make no tree, and the wishes count for nothing. */
        boolean wishesOfParents(int[] wish) {
            seen[1] = 0;
            int last = 1;
            for (int i = 1; i <= n && i <= last; i++) {
                for (int car = 1; car <= n; car++) {
                    if (parent[car] == seen[i] && last <= n) {
                        wish[car] = i;
                        last++;
                        seen[last] = car;
                    }
                }
            }
            return last == n + 1;
        }
    }

    /** The walk of a plain good row of n cars. */
    private static final class Walk {
        private int n = 0;
        final int[] car = new int[MOST_PLACES + 1];
        final int[] height = new int[MOST_PLACES + 1];

        void build(int[] wish, int cars) {
            n = cars;
            int j = 0;
            for (int v = 1; v <= n; v++) {
                for (int c = 1; c <= n; c++) {
                    if (wish[c] == v) {
                        j++;
                        car[j] = c;
                        height[j] = j - v;
                    }
                }
            }
        }

        int area() {
            int sum = 0;
            for (int j = 1; j <= n; j++) {
                sum += height[j];
            }
            return sum;
        }

        int dinv() {
            int found = 0;
            for (int j = 2; j <= n; j++) {
                for (int i = 1; i < j; i++) {
                    if (countsFor(i, j)) {
                        found++;
                    }
                }
            }
            return found;
        }

        private boolean countsFor(int i, int j) {
            if (height[i] == height[j]) {
                return car[i] < car[j];
            }
            return height[i] == height[j] + 1 && car[i] > car[j];
        }
    }

    /** How many rows of n cars have both counts of the walk, kept once they are counted. */
    private static final class Pairs {
        private final boolean[] filled = new boolean[MOST_BOTH + 1];
        private final int[][] rows = new int[MOST_BOTH + 1][(MOST_PAIRS + 1) * (MOST_PAIRS + 1)];
        private final int[] wish = new int[MOST_BOTH + 1];

        void fill(int n, Book book, Walk walk) {
            if (filled[n]) {
                return;
            }
            filled[n] = true;
            for (int car = 1; car <= n; car++) {
                wish[car] = 1;
            }
            for (long left = book.howMany(n, n); left > 0; left--) {
                walk.build(wish, n);
                rows[n][element(walk.area(), walk.dinv())]++;
                book.stepOn(wish, n, n);
            }
        }

        int rowsWith(int n, int area, int dinv) {
            return rows[n][element(area, dinv)];
        }

        private int element(int area, int dinv) {
            return area * (MOST_PAIRS + 1) + dinv;
        }
    }

    /**
     * How many good rows of n cars on n places are of a sort. Where the last of m cars is at place p, it found
     * a good row of p - 1 cars ahead of that place, one of m - p cars behind it, and wished any of 1 .. p.
     */
    private static final class Spreads {
        private final Choices choices;
        private int known = 0;
        private final long[][] byGoes = new long[MOST_PLACES + 1][MOST_GOES + 1];
        private final long[][] byLucky = new long[MOST_PLACES + 1][MOST_PLACES + 1];
        private final long[] byCuts = new long[MOST_PLACES + 1];

        Spreads(Choices someChoices) {
            choices = someChoices;
            byGoes[0][0] = 1;
            byLucky[0][0] = 1;
        }

        long withGoes(int n, int v) {
            learn(n);
            return v < 0 || v > MOST_GOES ? 0 : byGoes[n][v];
        }

        long withLucky(int n, int v) {
            learn(n);
            return v < 0 || v > n ? 0 : byLucky[n][v];
        }

        long withLastAt(int n, int v) {
            return v < 1 || v > n ? 0 : v * sidesOf(n, v);
        }

        /** As many as with v as the last wish, for the order of wishes changes nothing in who comes in. */
        long withFirstWish(int n, int v) {
            long rows = 0;
            for (int place = Math.max(v, 1); v >= 1 && place <= n; place++) {
                rows += sidesOf(n, place);
            }
            return rows;
        }

        long withOnes(int n, int v) {
            return v < 1 || v > n ? 0 : choices.of(n - 1, v - 1) * power(n, n - v);
        }

        /** A row that is cut at v places is v + 1 prime rows, among which the cars are parted. */
        long withCuts(int n, int v) {
            if (v < 0 || v >= n) {
                return 0;
            }
            for (int m = 1; m <= n; m++) {
                byCuts[m] = 0;
            }
            byCuts[0] = 1;
            for (int part = 0; part <= v; part++) {
                for (int m = n; m >= 0; m--) {
                    byCuts[m] = withOnePartMore(m);
                }
            }
            return byCuts[n];
        }

        private long withOnePartMore(int m) {
            long rows = 0;
            for (int part = 1; part <= m; part++) {
                rows += choices.of(m, part) * power(part - 1, part - 1) * byCuts[m - part];
            }
            return rows;
        }

        private long sidesOf(int n, int place) {
            return choices.of(n - 1, place - 1) * goodRows(place - 1) * goodRows(n - place);
        }

        private long goodRows(int n) {
            return n == 0 ? 1 : power(n + 1, n - 1);
        }

        private void learn(int n) {
            for (int m = known + 1; m <= n; m++) {
                for (int place = 1; place <= m; place++) {
                    addGoes(m, place);
                    addLucky(m, place);
                }
            }
            known = Math.max(known, n);
        }

        private int mostGoes(int n) {
            return n * (n - 1) / 2;
        }

        private void addGoes(int m, int place) {
            int left = place - 1;
            int right = m - place;
            for (int a = 0; a <= mostGoes(left); a++) {
                for (int b = 0; b <= mostGoes(right); b++) {
                    long rows = choices.of(m - 1, left) * byGoes[left][a] * byGoes[right][b];
                    for (int far = 0; far < place; far++) {
                        byGoes[m][a + b + far] += rows;
                    }
                }
            }
        }

        private void addLucky(int m, int place) {
            int left = place - 1;
            int right = m - place;
            for (int a = 0; a <= left; a++) {
                for (int b = 0; b <= right; b++) {
                    long rows = choices.of(m - 1, left) * byLucky[left][a] * byLucky[right][b];
                    byLucky[m][a + b] += rows * left;
                    byLucky[m][a + b + 1] += rows;
                }
            }
        }
    }

    /** Rows of items; each item is kept as its lane would keep it. */
    private static final class Sheets {
        private static final int NO_ROW = -1;
        private final int[] laneOf = new int[SHEETS];
        private final int[] sizeOf = new int[SHEETS];
        private final int[][] items = new int[SHEETS][MOST_ITEMS];

        Sheets() {
            for (int sheet = 0; sheet < SHEETS; sheet++) {
                laneOf[sheet] = NO_ROW;
            }
        }

        boolean hasSheet(int sheet) {
            return sheet >= 0 && sheet < SHEETS;
        }

        boolean hasLane(int lane) {
            return lane >= 0 && lane <= LAST_LANE;
        }

        boolean holdsNothing(int sheet) {
            return laneOf[sheet] == NO_ROW;
        }

        /** FINE, or why so many items from one on can not be had; none can be had from the end at the farthest. */
        int refusal(int sheet, int lane, int from, int size) {
            if (!hasSheet(sheet) || !hasLane(lane)) {
                return BAD;
            }
            if (holdsNothing(sheet)) {
                return NULL;
            }
            if (laneOf[sheet] != lane) {
                return CAST;
            }
            return from < 0 || from > sizeOf[sheet] - size ? INDEX : FINE;
        }

        void renew(int sheet, int lane, int size) {
            laneOf[sheet] = lane;
            sizeOf[sheet] = size;
            for (int i = 0; i < MOST_ITEMS; i++) {
                items[sheet][i] = 0;
            }
        }

        int remove(int sheet) {
            laneOf[sheet] = NO_ROW;
            return sizeOf[sheet];
        }

        void put(int sheet, int i, int v) {
            switch (laneOf[sheet]) {
                case 0:
                    items[sheet][i] = (byte) v;
                    break;
                case 1:
                    items[sheet][i] = (short) v;
                    break;
                default:
                    items[sheet][i] = v;
                    break;
            }
        }

        boolean allWithin(int sheet, int from, int size, int least, int greatest) {
            for (int i = from; i < from + size; i++) {
                if (items[sheet][i] < least || items[sheet][i] > greatest) {
                    return false;
                }
            }
            return true;
        }

        void copyTo(int[] row, int sheet, int from, int size) {
            for (int i = 1; i <= size; i++) {
                row[i] = items[sheet][from + i - 1];
            }
        }
    }
}
