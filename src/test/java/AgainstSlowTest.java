import java.lang.reflect.Method;
import java.util.Arrays;
import java.util.Comparator;
import java.util.Set;

/**
 * Long runs of made-up calls: every answer must be that of SlowWishes. On short roads all calls are made; on long ones
 * just those for which the slow class need not go through all rows.
 */
public final class AgainstSlowTest {
    private static final int RUNS = 900, CALLS = 512;
    private static final long[] FAR_OFF = {
        -1, -2, 11, 21, 100, Integer.MAX_VALUE, Integer.MIN_VALUE, Integer.MAX_VALUE - 3, 65536 + 2, 256 + 3
    };
    /** The calls that make cars come are made more often than the rest. */
    private static final String[] FREQUENT = {"car", "car", "car", "wish", "unrank", "unrank", "cars", "item", "item", "sheet"};

    private static final Set<String> GOES_THROUGH_ALL_ROWS = Set.of("ways", "rows", "rank", "unrank", "next", "like", "orders",
        "risings", "riseRank", "riseUnrank", "primes", "decode", "grow", "both", "spread");
    private static final int SHORT = 5;

    private static final Check CHECK = new Check();
    private static final Method[] CALLS_OF = callsOf(LaneWishes.class);
    private static final Method[] SLOW_CALLS = callsOf(SlowWishes.class);
    private static long seed = 20261118;
    private static boolean onLongRoads = false;

    public static void main(String[] args) throws ReflectiveOperationException {
        if (CALLS_OF.length != 38 || SLOW_CALLS.length != 38) {
            throw new IllegalStateException("the faces differ");
        }
        for (int run = 0; run < RUNS; run++) {
            onLongRoads = run % 3 == 2;
            run(run);
        }
        CHECK.end("AgainstSlowTest");
    }

    private static Method[] callsOf(Class<?> type) {
        Method[] calls = Arrays.stream(type.getDeclaredMethods())
            .filter(m -> java.lang.reflect.Modifier.isPublic(m.getModifiers())).toArray(Method[]::new);
        Arrays.sort(calls, Comparator.comparing(Method::getName));
        return calls;
    }

    private static void run(int run) throws ReflectiveOperationException {
        LaneWishes fast = new LaneWishes();
        SlowWishes slow = new SlowWishes();
        for (int call = 0; call < CALLS; call++) {
            int which = pick();
            Method method = CALLS_OF[which];
            Object[] given = arguments(method, fast);
            long got = ((Number) method.invoke(fast, given)).longValue();
            long want = ((Number) SLOW_CALLS[which].invoke(slow, given)).longValue();
            String told = "run " + run + ", call " + call + ": " + method.getName() + Arrays.toString(given);
            CHECK.due(told, got, want);
            if (got != want) {
                return;
            }
        }
    }

    private static int pick() {
        String name = below(2) == 0 ? FREQUENT[below(FREQUENT.length)] : CALLS_OF[below(CALLS_OF.length)].getName();
        if ((name.equals("road") || name.equals("clear")) && below(3) != 0) {
            name = "told";
        }
        if (onLongRoads && GOES_THROUGH_ALL_ROWS.contains(name)) {
            name = below(4) == 0 ? "mend" : "car";
        }
        for (int i = 0; i < CALLS_OF.length; i++) {
            if (CALLS_OF[i].getName().equals(name)) {
                return i;
            }
        }
        throw new IllegalStateException(name);
    }

    private static Object[] arguments(Method method, LaneWishes x) {
        Class<?>[] types = method.getParameterTypes();
        Object[] given = new Object[types.length];
        int first = 0;
        for (int i = 0; i < given.length; i++) {
            int[] range = range(method.getName(), i, x, first);
            long v = below(25) == 0 ? FAR_OFF[below(FAR_OFF.length)] : range[0] + below(range[1] - range[0] + 1);
            // the slow class goes through all rows, so its roads and spreads are kept short
            if (!onLongRoads && isSize(method.getName(), i) && v > SHORT && v <= 10) {
                v = SHORT;
            }
            if (i == 0) {
                first = (int) v;
            }
            given[i] = types[i] == long.class ? (Object) v : (Object) (int) v;
        }
        return given;
    }

    private static boolean isSize(String name, int i) {
        return i == 1 && (name.equals("road") || name.equals("spread"));
    }

    private static int[] range(String name, int i, LaneWishes x, int first) {
        int n = x.count(0);
        int k = x.count(1);
        switch (name + i) {
            case "road0": return new int[] {0, below(2) == 0 ? 0 : 2};
            case "road1": return new int[] {1, onLongRoads ? 10 : SHORT};
            case "road2": return new int[] {0, 9};
            case "wish1": return new int[] {1, n};
            case "length1": return new int[] {1, below(2) == 0 ? 1 : 4};
            case "told0": case "node0": case "wish0": case "length0": return new int[] {below(9) == 0 ? 0 : 1, k};
            case "told1": case "node1": return new int[] {0, 4};
            case "count0": return new int[] {-1, 8};
            case "rows0": case "risings0": return new int[] {-1, n + 1};
            case "unrank0": case "riseUnrank0": return new int[] {below(3) == 0 ? 0 : n, n};
            case "unrank1": return new int[] {0, (int) Math.max(0, x.rows(first) - (below(5) == 0 ? 0 : 1))};
            case "riseUnrank1": return new int[] {0, (int) Math.max(0, x.risings(first) - (below(5) == 0 ? 0 : 1))};
            case "code0": return new int[] {-1, n - 1};
            case "walk0": case "car0": case "on0": return new int[] {below(9) == 0 ? 0 : 1, below(9) == 0 ? n + 1 : n};
            case "walk1": case "counts0": return new int[] {0, 1};
            case "both0": return new int[] {0, 6};
            case "both1": case "both2": return new int[] {-1, 11};
            case "spread0": return new int[] {0, 5};
            case "spread1": return new int[] {1, 5};
            case "spread2": return new int[] {-1, 11};
            case "sheet0": case "drop0": case "item0": case "cars0": case "keep0": case "decode0": case "grow0":
                return new int[] {0, below(9) == 0 ? 4 : 1};
            case "sheet1": case "item1": case "cars1": case "keep1": case "decode1": case "grow1":
                return new int[] {below(9) == 0 ? -1 : 0, below(4) == 0 ? 3 : 0};
            case "sheet2": return new int[] {below(9) == 0 ? -1 : 3, below(9) == 0 ? 21 : 9};
            case "item2": return new int[] {-1, 9};
            case "item3": return new int[] {0, n};
            case "cars2": case "keep2": case "decode2": case "grow2": return new int[] {-1, below(9) == 0 ? 21 : 4};
            case "cars3": return new int[] {0, 3};
            default: throw new IllegalStateException(name + i);
        }
    }

    private static int below(int bound) {
        seed = seed * 6364136223846793005L + 1442695040888963407L;
        return (int) ((seed >>> 33) % Math.max(1, bound));
    }
}
