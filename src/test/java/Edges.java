import java.util.ArrayList;
import java.util.List;

/**
 * The tests of one section of the document. Each stands for a sentence, or a part of one, that names a boundary case,
 * and bears its words; DocumentTest finds out whether the document has these words, and words that no test bears.
 */
final class Edges {
    interface Test {
        void run(Check check);
    }

    private final String section;
    private final List<String> sentences = new ArrayList<>();
    private final List<Test> tests = new ArrayList<>();

    Edges(String section) {
        this.section = section;
    }

    Edges at(String sentence, Test test) {
        sentences.add(sentence);
        tests.add(test);
        return this;
    }

    String section() {
        return section;
    }

    List<String> sentences() {
        return sentences;
    }

    /** Runs each test by itself, so that one that fails hides no other. */
    void run() {
        int held = 0;
        for (int i = 0; i < tests.size(); i++) {
            held += holds(sentences.get(i), tests.get(i)) ? 1 : 0;
        }
        System.out.println(section + ": " + held + " of " + tests.size() + " boundary sentences hold");
        if (tests.isEmpty() || held < tests.size()) {
            System.exit(1);
        }
    }

    private boolean holds(String sentence, Test test) {
        Check check = new Check("\"" + sentence + "\"");
        try {
            test.run(check);
        } catch (RuntimeException thrown) {
            check.holds("no exception, but " + thrown, false);
        }
        if (!check.isFine()) {
            System.out.println("DOES NOT HOLD: \"" + sentence + "\"");
        }
        return check.isFine();
    }
}
