import java.io.IOException;
import java.lang.reflect.Field;
import java.lang.reflect.Method;
import java.lang.reflect.Modifier;
import java.nio.file.Files;
import java.nio.file.Path;
import java.util.List;
import java.util.regex.Matcher;
import java.util.regex.Pattern;

/** The calls of README.md's example answer what stands behind them, and README.md names all that the class has. */
final class ReadmeTest {
    private static final Path TESTS = Path.of("src/test/java");
    private static final Pattern CALL = Pattern.compile("court\\.(\\w+)\\(([^)]*)\\);\\s*// (-?\\d+)\\b.*");

    private final Check check = new Check("readme");
    private final String page = Files.readString(Path.of("README.md"));

    private ReadmeTest() throws IOException {
    }

    public static void main(String[] args) throws IOException, ReflectiveOperationException {
        ReadmeTest test = new ReadmeTest();
        test.example();
        test.helper();
        test.names();
        test.check.end();
    }

    private void example() throws ReflectiveOperationException {
        List<String> lines = block("SundialSpans court = new SundialSpans();");
        SundialSpans court = new SundialSpans();
        for (String line : lines.subList(1, lines.size())) {
            Matcher call = CALL.matcher(line);
            check.holds("a call and its answer: " + line, call.matches());
            if (call.matches()) {
                check.due(line, answer(court, call.group(1), call.group(2)), Long.parseLong(call.group(3)));
            }
        }
    }

    private static long answer(SundialSpans court, String name, String arguments) throws ReflectiveOperationException {
        String[] texts = arguments.isEmpty() ? new String[0] : arguments.split(", ");
        Object[] values = new Object[texts.length];
        for (Method method : SundialSpans.class.getDeclaredMethods()) {
            if (method.getName().equals(name) && method.getParameterCount() == texts.length) {
                for (int i = 0; i < texts.length; i++) {
                    long value = valueOf(texts[i]);
                    values[i] = method.getParameterTypes()[i] == int.class ? (Object) (int) value : (Object) value;
                }
                return ((Number) method.invoke(court, values)).longValue();
            }
        }
        throw new NoSuchMethodException(name);
    }

    private static long valueOf(String text) throws ReflectiveOperationException {
        if (text.startsWith("SundialSpans.")) {
            return SundialSpans.class.getField(text.replace("SundialSpans.", "")).getInt(null);
        }
        return Long.decode(text.replace("L", ""));
    }

    /** The lines of the block that begins with a line. */
    private List<String> block(String first) {
        int from = page.indexOf("```java\n" + first + "\n");
        check.holds("a block that begins with " + first, from >= 0);
        if (from < 0) {
            return List.of(first);
        }
        String rest = page.substring(from + "```java\n".length());
        return List.of(rest.substring(0, rest.indexOf("\n```")).split("\n"));
    }

    /** The function that packs texts is the one that all tests use. */
    private void helper() throws IOException {
        String used = Files.readString(TESTS.resolve("Check.java"));
        String shown = "    " + String.join("\n    ", block("static long packed(String characters) {")) + "\n";
        check.holds("Check has " + shown, used.contains(shown));
    }

    private void names() throws IOException {
        for (Method method : SundialSpans.class.getDeclaredMethods()) {
            if (Modifier.isPublic(method.getModifiers())) {
                Pattern row = Pattern.compile("(?m)^\\| `" + method.getName() + "\\((\\w*(?:, \\w+)*)\\)` \\|");
                Matcher found = row.matcher(page);
                check.holds("a row for " + method, found.find() && parameters(found.group(1)) == method.getParameterCount());
            }
        }
        for (Field field : SundialSpans.class.getFields()) {
            check.holds("the constant " + field.getName(), page.contains("`" + field.getName() + "`"));
        }
        Matcher test = Pattern.compile("\\b(\\w+Test)\\b").matcher(page);
        while (test.find()) {
            check.holds("the test " + test.group(1), Files.exists(TESTS.resolve(test.group(1) + ".java")));
        }
    }

    private static int parameters(String names) {
        return names.isEmpty() ? 0 : names.split(", ").length;
    }
}
