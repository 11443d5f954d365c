import java.io.IOException;
import java.nio.file.Files;
import java.nio.file.Path;
import java.util.HashMap;
import java.util.List;
import java.util.Map;
import java.util.Set;
import java.util.TreeSet;
import java.util.regex.Matcher;
import java.util.regex.Pattern;

/**
 * How long the methods of the program are and how deep its calls go, as rule 11 of ../shared/LANGUAGE.md bounds it, and
 * that no method comes back to itself. Methods of one name are taken for one, so the program can only be less deep.
 */
final class ShapeTest {
    private static final int MOST_DEEP = 8, MOST_LINES = 60, MOST_CLASSES = 12;
    private static final Pattern HEADER =
        Pattern.compile("( {4}| {8})(?:(?:public|private|static|final) )*(?:[\\w\\[\\]]+ )?(\\w+)\\([^)]*\\) \\{");
    private static final Set<String> NO_METHODS = Set.of("if", "for", "while", "switch");
    private static final Pattern CALL = Pattern.compile("\\b(\\w+)\\(");

    private final Check check = new Check("shape");
    private final Map<String, Set<String>> called = new HashMap<>();
    private final Map<String, Integer> depths = new HashMap<>();

    public static void main(String[] args) throws IOException {
        ShapeTest test = new ShapeTest();
        String source = Files.readString(Path.of("src/main/java/SundialSpans.java"));
        test.readMethods(source.replaceAll("//[^\n]*", "").split("\n"));
        test.check.holds("methods are found: " + test.called.size(), test.called.size() > 50);
        for (String method : test.called.keySet()) {
            int depth = test.depthOf(method, new TreeSet<>());
            test.check.holds("calls from " + method + " go " + depth + " deep", depth <= MOST_DEEP);
        }
        long classes = Pattern.compile("(?m)^ *(?:\\w+ )*class \\w+ \\{$").matcher(source).results().count();
        test.check.holds(classes + " classes", classes > 0 && classes <= MOST_CLASSES);
        test.check.end();
    }

    private void readMethods(String[] lines) {
        for (int from = 0; from < lines.length; from++) {
            Matcher header = HEADER.matcher(lines[from]);
            if (header.matches() && !NO_METHODS.contains(header.group(2))) {
                int to = from + 1;
                while (!lines[to].equals(header.group(1) + "}")) {
                    to++;
                }
                check.holds(header.group(2) + " is short", to - from < MOST_LINES);
                keepCalls(header.group(2), List.of(lines).subList(from + 1, to));
            }
        }
    }

    private void keepCalls(String method, List<String> body) {
        Set<String> calls = called.computeIfAbsent(method, name -> new TreeSet<>());
        Matcher matcher = CALL.matcher(String.join("\n", body));
        while (matcher.find()) {
            calls.add(matcher.group(1));
        }
    }

    /** How many calls stand open at once, with that of the method itself; the library's are not counted. */
    private int depthOf(String method, Set<String> open) {
        if (depths.containsKey(method)) {
            return depths.get(method);
        }
        check.holds(method + " does not come back to itself", !open.contains(method));
        if (!open.add(method)) {
            return 0;
        }
        int deepest = 0;
        for (String next : called.get(method)) {
            if (called.containsKey(next)) {
                deepest = Math.max(deepest, depthOf(next, open));
            }
        }
        open.remove(method);
        depths.put(method, deepest + 1);
        return deepest + 1;
    }
}
