import java.io.IOException;
import java.nio.file.Files;
import java.nio.file.Path;
import java.util.regex.Matcher;
import java.util.regex.Pattern;

/** Words and signs that ../shared/LANGUAGE.md leaves no room for in the program; it can't find all that is against it. */
final class LanguageTest {
    private static final String[] REFUSED = {
        "\\bpackage\\b", "\\bimport\\b", "->", "::", "\\btry\\b", "\\bcatch\\b", "\\bfinally\\b", "\\bassert\\b",
        "\\bsynchronized\\b", "\\bvar\\b", "\\btransient\\b", "\\bvolatile\\b", "\\bnative\\b", "@\\w", "\\bObject\\b",
        "\\bequals\\b", "\\bhashCode\\b", "\\btoString\\b", "\\bjava\\.", "Exact\\b", "\\bprotected\\b", "while \\(true\\)",
        "for \\(;;\\)", "\"\\s*\\+", "\\+\\s*\"", "static (?:final )?(?:double|float) [A-Z]"};

    public static void main(String[] args) throws IOException {
        Check check = new Check("language");
        String source = Files.readString(Path.of("src/main/java/SundialSpans.java"));
        String code = source.replaceAll("(?s)/\\*.*?\\*/", " ").replaceAll("//[^\n]*", " ");
        for (String refused : REFUSED) {
            Matcher matcher = Pattern.compile(refused).matcher(code);
            check.holds("nothing like " + refused, !matcher.find());
        }
        check.holds("all signs are 1 to 127", code.chars().allMatch(sign -> sign > 0 && sign < 128));
        check.end();
    }
}
