import java.io.IOException;
import java.nio.file.Files;
import java.nio.file.Path;
import java.util.LinkedHashMap;
import java.util.List;
import java.util.Map;

/**
 * Compares the words of the boundary tests with ../shared/DOC.md: the document has all of them, and it has no others
 * but those that are told here to name no boundary case. So a sentence that changes, or comes, asks for a test.
 */
final class DocumentTest {
    private static final Path DOCUMENT = Path.of("..", "shared", "DOC.md");

    private static final List<Edges> ALL = List.of(
        EdgesOfUseTest.edges(), EdgesOfTermsTest.edges(), EdgesOfSettingsTest.edges(), EdgesOfOverlapsTest.edges(),
        EdgesOfTextsTest.edges(), Edges01NewObjectTest.edges(), Edges02SetTest.edges(), Edges03DialTest.edges(),
        Edges04ReadTest.edges(), Edges05PassTest.edges(), Edges06AgreeTest.edges(), Edges07OfTest.edges(),
        Edges08BestTest.edges(), Edges09EndTest.edges(), Edges10OverlapTest.edges(), Edges11CountTest.edges(),
        Edges12MeanTest.edges(), Edges13ShareTest.edges(), Edges14AllowingTest.edges(), Edges15FewestTest.edges(),
        Edges16WiderInTest.edges(), Edges17WithoutTest.edges(), Edges18PutTest.edges(), Edges19WipeTest.edges(),
        Edges20FaultTest.edges(), Edges21CarryOutTest.edges(), Edges22UndoTest.edges(), Edges23SaveTest.edges(),
        Edges24RestoreTest.edges());

    /** Sections whose words are no promises: FaceTest watches over the face. */
    private static final List<String> WITHOUT_BOUNDARIES = List.of("SundialSpans", "The public face", "Not promised");

    /** A section, and words of it that name no boundary case. */
    private static final String[][] PLAIN = {
        {"What it is", "Sundials some of which lie: readings with doubts, spans that widen with their age, ends of spans in "
            + "order, the time at which the most spans overlap, the hour that is told by that, dials that are found to lie, "
            + "dials that are struck when they lie too often, overlaps with some liars allowed, the fewest liars, means by "
            + "weights as bits, when so many will overlap, what would be told without a dial, readings that are read from "
            + "texts, undo, and saved states."},
        {"Terms", "CONVENTIONS."},
        {"Settings", "Dials, spans"},
        {"Texts", "```text"},
        {"Texts", "Ahead of the calls `set`, `dial`, `read`, `pass`, `agree` the interface says: ---- changes."},
        {"Texts", "Ahead of the calls `put`, `wipe`, `fault`, `carryOut` the interface says: ---- texts."},
        {"Texts", "Ahead of the calls `undo`, `save`, `restore` the interface says: ---- undo, saving."},
        {"Promise 2: set", "`int set(int setting, int value)`:"},
        {"Promise 3: dial", "`int dial()`:"},
        {"Promise 4: read", "`int read(int dial, int time, int doubt)`:"},
        {"Promise 5: pass", "`int pass(int minutes)`:"},
        {"Promise 6: agree", "`int agree()`:"},
        {"Promise 7: of", "`int of(int dial, int what)`: Returns something about a dial."},
        {"Promise 7: of", "Returns the number;"},
        {"Promise 8: best", "`int best(int what)`: Returns something about the best overlap."},
        {"Promise 8: best", "Returns the number;"},
        {"Promise 9: end", "`int end(int rank, int what)`:"},
        {"Promise 9: end", "Returns the number;"},
        {"Promise 10: overlap", "`int overlap(int time)`: Returns the overlap of a time."},
        {"Promise 11: count", "`int count(int what)`: Returns a number."},
        {"Promise 11: count", "Returns the number;"},
        {"Promise 12: mean", "`long mean()`:"},
        {"Promise 13: share", "`int share()`:"},
        {"Promise 14: allowing", "`int allowing(int liars, int what)`:"},
        {"Promise 14: allowing", "Returns the number;"},
        {"Promise 15: fewest", "`int fewest()`:"},
        {"Promise 16: widerIn", "`int widerIn(int many)`:"},
        {"Promise 17: without", "`int without(int dial)`:"},
        {"Promise 18: put", "`int put(long characters)`:"},
        {"Promise 19: wipe", "`int wipe()`:"},
        {"Promise 20: fault", "`int fault()`:"},
        {"Promise 21: carryOut", "`int carryOut()`:"},
        {"Promise 22: undo", "`int undo()`:"},
        {"Promise 23: save", "`int save(int slot)`:"},
        {"Promise 24: restore", "`int restore(int slot)`:"}};

    private final Check check = new Check("document");
    /** The text of each section, by its heading. */
    private final Map<String, String> texts = new LinkedHashMap<>();
    /** For each character of a section, whether it is quoted by then. */
    private final Map<String, boolean[]> quoted = new LinkedHashMap<>();

    public static void main(String[] args) throws IOException {
        DocumentTest test = new DocumentTest();
        test.read(Files.readString(DOCUMENT));
        test.quoteAll();
        test.tellWhatNobodyQuotes();
        test.check.end();
    }

    private void read(String document) {
        String heading = "";
        StringBuilder text = new StringBuilder();
        for (String line : document.split("\n")) {
            if (line.matches("#+ .*")) {
                keep(heading, text.toString());
                heading = line.replaceFirst("#+ ", "");
                text.setLength(0);
            } else {
                text.append(line).append('\n');
            }
        }
        keep(heading, text.toString());
    }

    private void keep(String heading, String text) {
        String oneLine = text.strip().replaceAll("\\s+", " ");
        check.holds("one section \"" + heading + "\"", !texts.containsKey(heading));
        texts.put(heading, oneLine);
        quoted.put(heading, new boolean[oneLine.length()]);
    }

    private void quoteAll() {
        for (Edges edges : ALL) {
            for (String sentence : edges.sentences()) {
                quote(edges.section(), sentence);
            }
        }
        for (String[] plain : PLAIN) {
            quote(plain[0], plain[1]);
        }
    }

    private void quote(String section, String words) {
        String text = texts.getOrDefault(section, "");
        check.holds("in \"" + section + "\" stands \"" + words + "\"", text.contains(words));
        for (int at = text.indexOf(words); at >= 0; at = text.indexOf(words, at + 1)) {
            for (int i = at; i < at + words.length(); i++) {
                quoted.get(section)[i] = true;
            }
        }
    }

    private void tellWhatNobodyQuotes() {
        for (String section : texts.keySet()) {
            String rest = WITHOUT_BOUNDARIES.contains(section) ? "" : notQuoted(section);
            check.holds("in \"" + section + "\" no test and no plain words are \"" + rest + "\"", !rest.matches(".*\\w.*"));
        }
    }

    private String notQuoted(String section) {
        StringBuilder rest = new StringBuilder();
        for (int i = 0; i < texts.get(section).length(); i++) {
            rest.append(quoted.get(section)[i] ? ' ' : texts.get(section).charAt(i));
        }
        return rest.toString().replaceAll("\\s+", " ").strip();
    }
}
