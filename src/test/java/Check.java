/** Counts the calls of a test whose answers are not as due, and tells them. */
final class Check {
    static final int NO_SUCH = -1, BAD_VALUE = -2, BAD_TEXT = -3, TOO_MANY = -4, NOT_POSSIBLE = -5, NONE = -6;

    private final String name;
    private int asked;
    private int wrong;

    Check(String name) {
        this.name = name;
    }

    void due(String call, long got, long want) {
        asked++;
        if (got != want) {
            wrong++;
            System.out.println(name + ": " + call + " answered " + got + ", due is " + want);
        }
    }

    void holds(String what, boolean isSo) {
        due(what, isSo ? 1 : 0, 1);
    }

    boolean isFine() {
        return asked > 0 && wrong == 0;
    }

    void end() {
        if (!isFine()) {
            System.out.println(name + ": " + wrong + " of " + asked + " answers are not as due");
            System.exit(1);
        }
    }

    /** Up to 8 characters as the number by which put() takes them. */
    static long packed(String characters) {
        long number = 0;
        for (int i = 0; i < characters.length(); i++) {
            number = number << 8 | characters.charAt(i);
        }
        return number;
    }

    /** Puts a text of any length, and returns what the last put() answered. */
    static int write(SundialSpans court, String text) {
        int answer = 0;
        for (int from = 0; from < text.length(); from += 8) {
            answer = court.put(packed(text.substring(from, Math.min(text.length(), from + 8))));
        }
        return answer;
    }

    /** An object whose pad is a text. */
    static SundialSpans withPad(String text) {
        SundialSpans court = new SundialSpans();
        write(court, text);
        return court;
    }

    /** An object with a dial for each pair of a time and a doubt, read at time 0. */
    static SundialSpans withReadings(int... timesAndDoubts) {
        SundialSpans court = new SundialSpans();
        for (int i = 0; i < timesAndDoubts.length; i += 2) {
            court.read(court.dial(), timesAndDoubts[i], timesAndDoubts[i + 1]);
        }
        return court;
    }
}
