import java.lang.reflect.InvocationTargetException;
import java.lang.reflect.Method;
import java.lang.reflect.Modifier;
import java.util.Arrays;
import java.util.Comparator;
import java.util.List;
import java.util.function.Supplier;
import java.util.function.ToLongFunction;

/** What the tests of edges share: in their classes each static method without parameters is the test of a sentence. */
final class Edges {
    static final int BAD = -1, NOT = -2, FULL = -3, NONE = -4, NULL = -11, CAST = -12, INDEX = -13, SIZE = -14;
    static final int FAR = Integer.MAX_VALUE, FAR_BELOW = Integer.MIN_VALUE;

    private static final Check CHECK = new Check();
    private static String test = "";

    private Edges() {
    }

    static void runAll(Class<?> tests) throws IllegalAccessException, InvocationTargetException {
        Method[] methods = tests.getDeclaredMethods();
        Arrays.sort(methods, Comparator.comparing(Method::getName));
        int run = 0;
        for (Method method : methods) {
            if (!Modifier.isPrivate(method.getModifiers()) && method.getParameterCount() == 0) {
                test = tests.getName() + "." + method.getName();
                int before = CHECK.answers();
                method.invoke(null);
                CHECK.due(test + ": it asks for something", CHECK.answers() > before ? 1 : 0, 1);
                run++;
            }
        }
        CHECK.end(tests.getName() + ", " + run + " tests");
    }

    static void due(String call, long got, long want) {
        CHECK.due(test + ": " + call, got, want);
    }

    static void due(long got, long want) {
        CHECK.due(test, got, want);
    }

    /** The call answers a refusal, and changes nothing: a twin that was not called answers as before and behind it. */
    static void refused(long refusal, Supplier<LaneWishes> made, ToLongFunction<LaneWishes> call) {
        LaneWishes called = made.get();
        due("the refusal", call.applyAsLong(called), refusal);
        List<Long> got = Probe.answers(called);
        List<Long> want = Probe.answers(made.get());
        due("as many answers", got.size(), want.size());
        for (int i = 0; i < want.size() && i < got.size(); i++) {
            due("refused, yet something changed (answer " + i + " of the probe)", got.get(i), want.get(i));
        }
    }

    static void refusedInAll(long refusal, List<Supplier<LaneWishes>> made, ToLongFunction<LaneWishes> call) {
        for (Supplier<LaneWishes> one : made) {
            refused(refusal, one, call);
        }
    }

    /** WISHES of all CARS. */
    static void wishes(LaneWishes x, int... want) {
        each(x, 0, want);
    }

    /** PLACES where all CARS are AT. */
    static void places(LaneWishes x, int... want) {
        each(x, 2, want);
    }

    private static void each(LaneWishes x, int what, int... want) {
        due("how many cars", x.count(1), want.length);
        for (int car = 1; car <= want.length; car++) {
            due("told(" + car + ", " + what + ")", x.told(car, what), want[car - 1]);
        }
    }
}
