import java.io.IOException;
import java.lang.reflect.Modifier;
import java.nio.file.Files;
import java.nio.file.Path;
import java.util.ArrayList;
import java.util.Arrays;
import java.util.List;
import java.util.TreeSet;
import java.util.regex.Matcher;
import java.util.regex.Pattern;

/** The rules of LANGUAGE.md that can be seen from the source's lines and from the compiled face. */
public final class LanguageTest {
    private static final Check CHECK = new Check();
    private static final Path SOURCE = Path.of("src/main/java/LaneWishes.java");

    public static void main(String[] args) throws IOException {
        String source = Files.readString(SOURCE);
        String code = source.replaceAll("(?s)/\\*.*?\\*/", "").replaceAll("//[^\n]*", "");
        words(code);
        face();
        names(code);
        methodLengths(code);
        newOnlyOnce(code);
        CHECK.end("LanguageTest");
    }

    private static void words(String code) {
        String[] none = {"throw", "throws", "try", "catch", "finally", "synchronized", "assert", "import", "package",
            "lambda", "Exact", "protected", "double", "float", "random", "nanoTime", "currentTimeMillis", "Thread",
            "instanceof", "record", "abstract", "interface", "enum"};
        for (String word : none) {
            CHECK.due("the word " + word, matches(code, "\\b" + word + "\\b"), 0);
        }
        CHECK.due("arrows and method references", matches(code, "->|::"), 0);
        CHECK.due("signs beyond 127", matches(code, "[^\\x00-\\x7f]"), 0);
        CHECK.due("other objects of the library", matches(code, "\\b(String|StringBuilder|ArrayList|List|Object)\\b"), 0);
    }

    /** The document's face and nothing else that can be seen from outside. */
    private static void face() {
        Class<?> type = LaneWishes.class;
        CHECK.due("public and final", type.getModifiers(), Modifier.PUBLIC | Modifier.FINAL);
        CHECK.due("one constructor", type.getDeclaredConstructors().length, 1);
        List<String> seen = new ArrayList<>();
        for (var method : type.getDeclaredMethods()) {
            if (!Modifier.isPrivate(method.getModifiers())) {
                seen.add(method.toString().replace("LaneWishes.", "").replace(",", ", "));
            }
        }
        for (var field : type.getDeclaredFields()) {
            if (!Modifier.isPrivate(field.getModifiers())) {
                seen.add(field.toString().replace("LaneWishes.", ""));
            }
        }
        List<String> want = new ArrayList<>();
        String[] constants = {"BAD", "NOT", "FULL", "NONE", "NULL", "CAST", "INDEX", "SIZE"};
        for (String constant : constants) {
            want.add("public static final int " + constant);
        }
        String[] methods = {"int road(int, int, int)", "int car(int)", "int wish(int, int)", "int length(int, int)",
            "int undo()", "int clear()", "int told(int, int)", "int on(int)", "int count(int)", "int good()",
            "int ways()", "long rows(int)", "long rank()", "int unrank(int, long)", "int next()", "long like()",
            "long orders()", "int rise()", "long risings(int)", "long riseRank()", "int riseUnrank(int, long)",
            "int cuts()", "long primes()", "int mend()", "int node(int, int)", "int inv()", "int code(int)",
            "int decode(int, int, int)", "int grow(int, int, int)", "int walk(int, int)", "int counts(int)",
            "int both(int, int, int)", "long spread(int, int, int)", "int sheet(int, int, int)", "int drop(int)",
            "int item(int, int, int, int)", "int cars(int, int, int, int)", "int keep(int, int, int)"};
        for (String method : methods) {
            want.add("public " + method);
        }
        CHECK.due("the face " + new TreeSet<>(seen), new TreeSet<>(seen).equals(new TreeSet<>(want)) ? 1 : 0, 1);
        CHECK.due("at most twelve classes", type.getDeclaredClasses().length < 12 ? 1 : 0, 1);
        for (Class<?> inside : type.getDeclaredClasses()) {
            boolean fits = Modifier.isStatic(inside.getModifiers()) && !Modifier.isPublic(inside.getModifiers());
            CHECK.due(inside + " is static and not public", fits ? 1 : 0, 1);
            CHECK.due(inside + " has some twenty fields", inside.getDeclaredFields().length <= 20 ? 1 : 0, 1);
        }
    }

    /** No private method, and none of a class inside, bears the name of a public one. */
    private static void names(String code) {
        List<String> open = Arrays.stream(LaneWishes.class.getDeclaredMethods())
            .filter(m -> Modifier.isPublic(m.getModifiers())).map(m -> m.getName()).toList();
        for (String name : open) {
            CHECK.due("methods named " + name, matches(code, "(int|long|boolean|void)(\\[\\])* " + name + "\\("), 1);
        }
    }

    private static void methodLengths(String code) {
        String[] lines = code.split("\n");
        int start = -1;
        for (int i = 0; i < lines.length; i++) {
            if (lines[i].matches(" +[\\w ]*\\w+(\\[\\])* \\w+\\(.*\\) \\{") && !lines[i].matches(" +(else )?(if|for|while|switch).*")) {
                start = i;
                CHECK.due("at most seven parameters: " + lines[i], lines[i].split(",").length <= 7 ? 1 : 0, 1);
            }
            if (start >= 0 && lines[i].matches("    (    )?\\}")) {
                CHECK.due("at most sixty lines: " + lines[start], i - start < 60 ? 1 : 0, 1);
                start = -1;
            }
        }
    }

    /** All runs' calls live in one room: nothing is made but with the object. */
    private static void newOnlyOnce(String code) {
        String withoutOuterConstructor = code.replaceFirst("(?s)public LaneWishes\\(\\) \\{.*?\n    \\}", "");
        int all = matches(withoutOuterConstructor, "\\bnew\\b");
        int inFields = matches(withoutOuterConstructor, "\n +(private )?final \\S+ \\w+ = new [^;]*;");
        CHECK.due("what is made outside constructors and fields", all - inFields, 0);
    }

    private static int matches(String text, String pattern) {
        Matcher matcher = Pattern.compile(pattern).matcher(text);
        int found = 0;
        while (matcher.find()) {
            found++;
        }
        return found;
    }
}
