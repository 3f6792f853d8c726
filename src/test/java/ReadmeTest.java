import java.io.IOException;
import java.lang.reflect.Method;
import java.lang.reflect.Modifier;
import java.nio.file.Files;
import java.nio.file.Path;
import java.util.HashMap;
import java.util.List;
import java.util.Map;
import java.util.regex.Matcher;
import java.util.regex.Pattern;

/** README.md names every call, and each call that it shows answers what is told behind it. */
public final class ReadmeTest {
    private static final Pattern CALL = Pattern.compile("x\\.(\\w+)\\(([-\\d, ]*)\\); +// (-?\\d+|[A-Z]+)(:.*)?");
    private static final Check CHECK = new Check();

    private final Map<String, Method> calls = new HashMap<>();
    private LaneWishes x;

    public static void main(String[] args) throws IOException, ReflectiveOperationException {
        List<String> lines = Files.readAllLines(Path.of("README.md"));
        ReadmeTest test = new ReadmeTest();
        test.namesEveryCall(String.join("\n", lines));
        test.answersAsTold(lines);
        CHECK.end("ReadmeTest");
    }

    private ReadmeTest() {
        for (Method method : LaneWishes.class.getDeclaredMethods()) {
            if (Modifier.isPublic(method.getModifiers())) {
                calls.put(method.getName(), method);
            }
        }
    }

    private void namesEveryCall(String readme) {
        for (String name : calls.keySet()) {
            CHECK.due("README tells of " + name, readme.contains("`" + name + "(") ? 1 : 0, 1);
            CHECK.due("README shows " + name, readme.contains("x." + name + "(") ? 1 : 0, 1);
        }
    }

    private void answersAsTold(List<String> lines) throws ReflectiveOperationException {
        boolean inJava = false;
        for (String line : lines) {
            if (line.startsWith("```")) {
                inJava = line.equals("```java");
            } else if (inJava && line.startsWith("LaneWishes x = new LaneWishes();")) {
                x = new LaneWishes();
            } else if (inJava) {
                answersAsTold(line);
            }
        }
    }

    private void answersAsTold(String line) throws ReflectiveOperationException {
        Matcher told = CALL.matcher(line);
        CHECK.due("it is understood: " + line, told.matches() ? 1 : 0, 1);
        if (told.matches()) {
            CHECK.due("README: " + line, answer(calls.get(told.group(1)), told.group(2)), number(told.group(3)));
        }
    }

    private long answer(Method call, String told) throws ReflectiveOperationException {
        Class<?>[] types = call.getParameterTypes();
        Object[] given = new Object[types.length];
        String[] numbers = told.split(", ");
        for (int i = 0; i < types.length; i++) {
            given[i] = types[i] == long.class ? (Object) Long.valueOf(numbers[i]) : (Object) Integer.valueOf(numbers[i]);
        }
        return ((Number) call.invoke(x, given)).longValue();
    }

    private static long number(String told) throws ReflectiveOperationException {
        return Character.isLetter(told.charAt(0)) ? LaneWishes.class.getField(told).getInt(null) : Long.parseLong(told);
    }
}
