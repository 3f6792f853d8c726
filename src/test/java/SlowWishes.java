import java.util.ArrayList;
import java.util.Arrays;
import java.util.HashMap;
import java.util.HashSet;
import java.util.List;
import java.util.Map;
import java.util.Objects;
import java.util.Set;
import java.util.TreeSet;

/**
 * The document once more, told as plainly and slowly as can be: all rows are gone through, and what the
 * machine finds is left to the machine. The tests hold LaneWishes against it on short roads.
 */
public final class SlowWishes {
    private static final int BAD = -1, NOT = -2, FULL = -3, NONE = -4, NULL = -11, CAST = -12, INDEX = -13, SIZE = -14;

    private static final Map<String, List<int[]>> KEPT = new HashMap<>();

    private int kind = 0;
    private int n = 5;
    private int back = 0;
    private final List<Integer> wishes = new ArrayList<>();
    private final List<Integer> lengths = new ArrayList<>();
    private final Object[] sheets = new Object[4];

    // ---- 1 cars

    public int road(int newKind, int places, int b) {
        if (!in(newKind, 0, 2) || !in(places, 1, 10) || newKind == 2 && !in(b, 0, 9)) return BAD;
        kind = newKind;
        n = places;
        back = b;
        clear();
        return 1;
    }

    public int car(int wish) {
        if (!in(wish, 1, n)) return BAD;
        if (wishes.size() == n) return FULL;
        wishes.add(wish);
        lengths.add(1);
        return wishes.size();
    }

    public int wish(int car, int v) {
        if (!in(car, 1, wishes.size()) || !in(v, 1, n)) return BAD;
        return wishes.set(car - 1, v);
    }

    public int length(int car, int v) {
        if (!in(car, 1, wishes.size()) || !in(v, 1, 4)) return BAD;
        return lengths.set(car - 1, v);
    }

    public int undo() {
        if (wishes.isEmpty()) return NOT;
        wishes.remove(wishes.size() - 1);
        lengths.remove(lengths.size() - 1);
        return wishes.size();
    }

    public int clear() {
        int were = wishes.size();
        wishes.clear();
        lengths.clear();
        return were;
    }

    public int told(int car, int what) {
        if (!in(car, 1, wishes.size()) || !in(what, 0, 4)) return BAD;
        int at = park(row(), new int[n + 1])[car - 1];
        int wish = wishes.get(car - 1);
        if (what == 0) return wish;
        if (what == 1) return lengths.get(car - 1);
        if (what == 2) return at;
        if (what == 3) return at == NONE ? NONE : far(wish, at);
        return at == wish ? 1 : 0;
    }

    public int on(int place) {
        if (!in(place, 1, n)) return BAD;
        int[] lot = new int[n + 1];
        park(row(), lot);
        return lot[place] == 0 ? NONE : lot[place];
    }

    public int count(int what) {
        int[] lot = new int[n + 1];
        int[] at = park(row(), lot);
        int in = 0, lucky = 0, all = 0, most = 0, free = 0;
        for (int c = 0; c < at.length; c++) {
            if (at[c] == NONE) continue;
            in++;
            int far = far(wishes.get(c), at[c]);
            all += far;
            most = Math.max(most, far);
            if (far == 0) lucky++;
        }
        for (int p = 1; p <= n; p++) if (lot[p] == 0) free++;
        int[] answers = {n, at.length, in, at.length - in, lucky, all, most, free};
        return in(what, 0, 7) ? answers[what] : BAD;
    }

    public int good() {
        return isGood(row()) ? 1 : 0;
    }

    public int ways() {
        if (Math.pow(n, wishes.size()) > 100000) return NOT;
        int found = 0;
        for (int[] row : allRows(n, wishes.size())) if (isGood(row)) found++;
        return found;
    }

    // ---- 2 rows in order

    public long rows(int k) {
        return in(k, 0, n) ? goodRows(n, k).size() : BAD;
    }

    public long rank() {
        return plainGood() ? indexOf(goodRows(n, wishes.size()), row()) : NOT;
    }

    public int unrank(int k, long r) {
        if (!in(k, 0, n)) return BAD;
        List<int[]> rows = goodRows(n, k);
        if (r < 0 || r >= rows.size()) return BAD;
        if (kind != 0) return NOT;
        take(rows.get((int) r));
        return k;
    }

    public int next() {
        if (!plainGood()) return NOT;
        List<int[]> rows = goodRows(n, wishes.size());
        int i = indexOf(rows, row());
        if (i == rows.size() - 1) return NONE;
        take(rows.get(i + 1));
        return 1;
    }

    public long like() {
        if (!plainGood()) return NOT;
        int[] places = park(row(), new int[n + 1]);
        long found = 0;
        for (int[] row : allRows(n, wishes.size())) if (Arrays.equals(places, park(row, new int[n + 1]))) found++;
        return found;
    }

    public long orders() {
        if (kind != 0) return NOT;
        int[] sorted = sorted(row());
        long found = 0;
        for (int[] row : allRows(n, wishes.size())) if (Arrays.equals(sorted, sorted(row))) found++;
        return found;
    }

    public int rise() {
        int[] sorted = sorted(row());
        int changed = 0;
        for (int c = 0; c < sorted.length; c++) if (wishes.set(c, sorted[c]) != sorted[c]) changed++;
        return changed;
    }

    public long risings(int k) {
        return in(k, 0, n) ? risingRows(n, k).size() : BAD;
    }

    public long riseRank() {
        if (!plainGood() || !Arrays.equals(row(), sorted(row()))) return NOT;
        return indexOf(risingRows(n, wishes.size()), row());
    }

    public int riseUnrank(int k, long r) {
        if (!in(k, 0, n)) return BAD;
        List<int[]> rows = risingRows(n, k);
        if (r < 0 || r >= rows.size()) return BAD;
        if (kind != 0) return NOT;
        take(rows.get((int) r));
        return k;
    }

    public int cuts() {
        return hasTree() ? cutsOf(row()) : NOT;
    }

    public long primes() {
        long found = 0;
        for (int[] row : goodRows(n, n)) if (cutsOf(row) == 0) found++;
        return found;
    }

    public int mend() {
        if (!plain() || wishes.size() != n) return NOT;
        List<Integer> cars = new ArrayList<>();
        for (int c = 0; c < n; c++) cars.add(c);
        cars.sort((x, y) -> row()[x] != row()[y] ? row()[y] - row()[x] : y - x);
        int changed = 0;
        while (good() == 0) {
            wishes.set(cars.get(changed), 1);
            changed++;
        }
        return changed;
    }

    // ---- 3 trees, codes, walks

    public int node(int car, int what) {
        if (!in(car, 1, wishes.size()) || !in(what, 0, 4)) return BAD;
        if (!hasTree()) return NOT;
        int[] parents = parentsOf(row());
        if (what == 0) return parents[car];
        if (what == 1) return above(parents, car).size();
        if (what == 4) return seenOf(row()).indexOf(car) + 1;
        int found = 0;
        for (int other = 1; other <= n; other++) {
            if (what == 2 ? parents[other] == car : above(parents, other).contains(car)) found++;
        }
        return found;
    }

    public int inv() {
        if (!hasTree()) return NOT;
        int[] parents = parentsOf(row());
        int found = 0;
        for (int car = 1; car <= n; car++) for (int top : above(parents, car)) if (top > car) found++;
        return found;
    }

    public int code(int i) {
        if (!in(i, 0, n - 2)) return BAD;
        return hasTree() ? codeOf(row())[i] : NOT;
    }

    public int decode(int sheet, int lane, int from) {
        int[] items = new int[n - 1];
        int refusal = read(sheet, lane, from, items);
        if (refusal != 0) return refusal;
        if (kind != 0 || n == 1) return NOT;
        for (int[] row : goodRows(n, n)) {
            if (Arrays.equals(codeOf(row), items)) {
                take(row);
                return n;
            }
        }
        return NOT;
    }

    public int grow(int sheet, int lane, int from) {
        int[] items = new int[n];
        int refusal = read(sheet, lane, from, items);
        if (refusal != 0) return refusal;
        if (kind != 0) return NOT;
        for (int[] row : goodRows(n, n)) {
            if (Arrays.equals(Arrays.copyOfRange(parentsOf(row), 1, n + 1), items)) {
                take(row);
                return n;
            }
        }
        return NOT;
    }

    public int walk(int j, int what) {
        if (!in(j, 1, n) || !in(what, 0, 1)) return BAD;
        if (!hasTree()) return NOT;
        int car = walkOf(row()).get(j - 1);
        return what == 0 ? car : j - wishes.get(car - 1);
    }

    public int counts(int what) {
        if (!in(what, 0, 1)) return BAD;
        if (!hasTree()) return NOT;
        return what == 0 ? areaOf(row()) : dinvOf(row());
    }

    public int both(int size, int a, int d) {
        if (!in(size, 1, 5)) return BAD;
        int found = 0;
        for (int[] row : goodRows(size, size)) if (areaOf(row) == a && dinvOf(row) == d) found++;
        return found;
    }

    // ---- 4 spreads

    public long spread(int what, int size, int v) {
        if (!in(what, 0, 5) || !in(size, 1, 10)) return BAD;
        SlowWishes x = new SlowWishes();
        x.road(0, size, 0);
        long found = 0;
        for (int[] row : goodRows(size, size)) {
            x.take(row);
            int ones = 0;
            for (int wish : row) if (wish == 1) ones++;
            int[] values = {x.count(5), x.count(4), x.told(size, 2), row[0], ones, Integer.bitCount(x.cuts())};
            if (values[what] == v) found++;
        }
        return found;
    }

    // ---- 5 sheets

    public int sheet(int sheet, int lane, int size) {
        if (!in(sheet, 0, 3) || !in(lane, 0, 2) || size > 20) return BAD;
        try {
            sheets[sheet] = lane == 0 ? new byte[size] : lane == 1 ? new short[size] : new int[size];
        } catch (NegativeArraySizeException e) {
            return SIZE;
        }
        return size;
    }

    public int drop(int sheet) {
        if (!in(sheet, 0, 3)) return BAD;
        if (sheets[sheet] == null) return NULL;
        int size = java.lang.reflect.Array.getLength(sheets[sheet]);
        sheets[sheet] = null;
        return size;
    }

    public int item(int sheet, int lane, int i, int v) {
        int refusal = write(sheet, lane, i, new int[] {v});
        return refusal != 0 ? refusal : 1;
    }

    public int cars(int sheet, int lane, int from, int size) {
        if (!in(size, 0, 10)) return BAD;
        int[] items = new int[size];
        int refusal = read(sheet, lane, from, items);
        if (refusal != 0) return refusal;
        for (int item : items) if (!in(item, 1, n)) return NOT;
        if (wishes.size() + size > n) return FULL;
        for (int item : items) car(item);
        return wishes.size();
    }

    public int keep(int sheet, int lane, int from) {
        int refusal = write(sheet, lane, from, row());
        return refusal != 0 ? refusal : wishes.size();
    }

    private int read(int sheet, int lane, int from, int[] items) {
        if (!in(sheet, 0, 3) || !in(lane, 0, 2)) return BAD;
        try {
            Objects.checkFromIndexSize(from, items.length, size(sheets[sheet], lane));
            for (int i = 0; i < items.length; i++) {
                items[i] = lane == 0 ? ((byte[]) sheets[sheet])[from + i]
                    : lane == 1 ? ((short[]) sheets[sheet])[from + i] : ((int[]) sheets[sheet])[from + i];
            }
        } catch (NullPointerException e) {
            return NULL;
        } catch (ClassCastException e) {
            return CAST;
        } catch (IndexOutOfBoundsException e) {
            return INDEX;
        }
        return 0;
    }

    private int write(int sheet, int lane, int from, int[] items) {
        int refusal = read(sheet, lane, from, items.clone());
        for (int i = 0; refusal == 0 && i < items.length; i++) {
            if (lane == 0) ((byte[]) sheets[sheet])[from + i] = (byte) items[i];
            if (lane == 1) ((short[]) sheets[sheet])[from + i] = (short) items[i];
            if (lane == 2) ((int[]) sheets[sheet])[from + i] = items[i];
        }
        return refusal;
    }

    private static int size(Object sheet, int lane) {
        return lane == 0 ? ((byte[]) sheet).length : lane == 1 ? ((short[]) sheet).length : ((int[]) sheet).length;
    }

    // ---- what the words mean

    private static boolean in(int v, int least, int greatest) {
        return v >= least && v <= greatest;
    }

    private int[] row() {
        return wishes.stream().mapToInt(i -> i).toArray();
    }

    private static int[] sorted(int[] row) {
        int[] copy = row.clone();
        Arrays.sort(copy);
        return copy;
    }

    private void take(int[] row) {
        clear();
        for (int wish : row) car(wish);
    }

    /** The places in the order in which a car looks at them. */
    private List<Integer> looks(int wish) {
        List<Integer> looks = new ArrayList<>();
        looks.add(wish);
        if (kind == 2) for (int j = 1; j <= back; j++) if (wish - j >= 1) looks.add(wish - j);
        for (int p = wish + 1; p <= n; p++) looks.add(p);
        if (kind == 1) for (int p = 1; p < wish; p++) looks.add(p);
        return looks;
    }

    private int[] park(int[] row, int[] lot) {
        int[] at = new int[row.length];
        for (int c = 0; c < row.length; c++) {
            at[c] = NONE;
            for (int place : looks(row[c])) {
                if (lot[place] != 0) continue;
                if (stands(lot, place, c < lengths.size() ? lengths.get(c) : 1, c + 1)) at[c] = place;
                break;
            }
        }
        return at;
    }

    private boolean stands(int[] lot, int place, int length, int car) {
        Set<Integer> body = new HashSet<>();
        for (int i = 0; i < length; i++) {
            int p = kind == 1 ? (place - 1 + i) % n + 1 : place + i;
            if (p > n || lot[p] != 0 || !body.add(p)) return false;
        }
        for (int p : body) lot[p] = car;
        return true;
    }

    private int far(int wish, int at) {
        if (kind == 1) return (at - wish + n) % n;
        return Math.abs(at - wish);
    }

    private boolean isGood(int[] row) {
        for (int at : park(row, new int[n + 1])) if (at == NONE) return false;
        return true;
    }

    private boolean plain() {
        for (int length : lengths) if (length != 1) return false;
        return kind == 0;
    }

    private boolean plainGood() {
        return plain() && good() == 1;
    }

    private boolean hasTree() {
        return plainGood() && wishes.size() == n;
    }

    private static List<int[]> allRows(int places, int k) {
        List<int[]> rows = new ArrayList<>();
        int[] row = new int[k];
        Arrays.fill(row, 1);
        while (true) {
            rows.add(row.clone());
            int i = k - 1;
            while (i >= 0 && row[i] == places) {
                row[i] = 1;
                i--;
            }
            if (i < 0) return rows;
            row[i]++;
        }
    }

    /** Plain: on a straight road of its own. */
    private static List<int[]> goodRows(int places, int k) {
        return KEPT.computeIfAbsent(places + "/" + k, key -> {
            SlowWishes plain = new SlowWishes();
            plain.road(0, places, 0);
            List<int[]> rows = allRows(places, k);
            rows.removeIf(row -> !plain.isGood(row));
            return rows;
        });
    }

    private static List<int[]> risingRows(int places, int k) {
        List<int[]> rows = new ArrayList<>(goodRows(places, k));
        rows.removeIf(row -> !Arrays.equals(row, sorted(row)));
        return rows;
    }

    private static int indexOf(List<int[]> rows, int[] row) {
        for (int i = 0; i < rows.size(); i++) if (Arrays.equals(rows.get(i), row)) return i;
        throw new IllegalStateException();
    }

    private static int cutsOf(int[] row) {
        int bits = 0;
        for (int i = 1; i < row.length; i++) {
            int upTo = 0;
            for (int wish : row) if (wish <= i) upTo++;
            if (upTo == i) bits |= 1 << i;
        }
        return bits;
    }

    private static List<Integer> seenOf(int[] row) {
        List<Integer> seen = new ArrayList<>();
        seen.add(0);
        for (int i = 1; i <= row.length; i++) {
            for (int car = 1; car <= row.length; car++) if (row[car - 1] == i) seen.add(car);
        }
        return seen;
    }

    private static int[] parentsOf(int[] row) {
        int[] parents = new int[row.length + 1];
        for (int car = 1; car <= row.length; car++) parents[car] = seenOf(row).get(row[car - 1] - 1);
        return parents;
    }

    private static List<Integer> above(int[] parents, int car) {
        List<Integer> above = new ArrayList<>();
        for (int at = car; at != 0; at = parents[at]) above.add(parents[at]);
        return above;
    }

    private static int[] codeOf(int[] row) {
        int[] parents = parentsOf(row);
        List<TreeSet<Integer>> near = new ArrayList<>();
        for (int v = 0; v <= row.length; v++) near.add(new TreeSet<>());
        for (int v = 1; v <= row.length; v++) {
            near.get(v).add(parents[v]);
            near.get(parents[v]).add(v);
        }
        int[] code = new int[row.length - 1];
        for (int i = 0; i < code.length; i++) {
            int v = row.length;
            while (near.get(v).size() != 1) v--;
            code[i] = near.get(v).first();
            near.get(v).clear();
            near.get(code[i]).remove(v);
        }
        return code;
    }

    private static List<Integer> walkOf(int[] row) {
        List<Integer> cars = new ArrayList<>();
        for (int car = 1; car <= row.length; car++) cars.add(car);
        cars.sort((x, y) -> row[x - 1] != row[y - 1] ? row[x - 1] - row[y - 1] : x - y);
        return cars;
    }

    private static int[] heightsOf(int[] row) {
        int[] heights = new int[row.length];
        for (int j = 1; j <= row.length; j++) heights[j - 1] = j - row[walkOf(row).get(j - 1) - 1];
        return heights;
    }

    private static int areaOf(int[] row) {
        return Arrays.stream(heightsOf(row)).sum();
    }

    private static int dinvOf(int[] row) {
        List<Integer> cars = walkOf(row);
        int[] heights = heightsOf(row);
        int found = 0;
        for (int i = 0; i < row.length; i++) {
            for (int j = i + 1; j < row.length; j++) {
                boolean rising = cars.get(i) < cars.get(j);
                if (heights[i] == heights[j] && rising || heights[i] == heights[j] + 1 && !rising) found++;
            }
        }
        return found;
    }
}
