import java.util.ArrayDeque;
import java.util.ArrayList;
import java.util.Arrays;
import java.util.List;
import java.util.regex.Matcher;
import java.util.regex.Pattern;

/** The document once more, in the slowest and plainest way, to compare SundialSpans with: overlaps minute by minute. */
final class Model {
    private static final int NO_SUCH = -1, BAD_VALUE = -2, BAD_TEXT = -3, TOO_MANY = -4, NOT_POSSIBLE = -5, NONE = -6;
    private static final String NUMBER = "(?:0|[1-9][0-9]{0,3})";
    private static final String ORDER = "(?:d|a|t" + NUMBER + "|r" + NUMBER + "=" + NUMBER + "(?:~" + NUMBER + ")?)";
    private static final Pattern TEXT = Pattern.compile(ORDER + "(?:;" + ORDER + ")*");

    private static final class Dial {
        boolean hasReading;
        int told;
        int doubt;
        int since;
        int lies;
        int liesInRow;
        boolean struck;

        Dial copy() {
            Dial other = new Dial();
            other.hasReading = hasReading;
            other.told = told;
            other.doubt = doubt;
            other.since = since;
            other.lies = lies;
            other.liesInRow = liesInRow;
            other.struck = struck;
            return other;
        }
    }

    private static final class State {
        int[] settings = {2, 3};
        int now;
        int agreed;
        int latest = NONE;
        List<Dial> dials = new ArrayList<>();

        State copy() {
            State other = new State();
            other.settings = settings.clone();
            other.now = now;
            other.agreed = agreed;
            other.latest = latest;
            for (Dial dial : dials) {
                other.dials.add(dial.copy());
            }
            return other;
        }
    }

    /** Low end, high end, dial. */
    private record Span(int low, int high, int dial) {
        boolean has(int time) {
            return low <= time && time <= high;
        }
    }

    /** Least to greatest time, and how many spans have it. */
    private record Run(int low, int high, int many) {
        int hour() {
            return Math.floorDiv(low + high, 2);
        }
    }

    private State state = new State();
    private final ArrayDeque<State> history = new ArrayDeque<>();
    private final State[] slots = new State[2];
    private String pad = "";

    private int changed(State before, int answer) {
        if (answer < 0 && answer != NONE) {
            return answer;
        }
        history.addLast(before);
        if (history.size() > 6) {
            history.removeFirst();
        }
        return answer;
    }

    int set(int setting, int value) {
        if (setting < 0 || setting > 1 || value < setting || value > (setting == 0 ? 60 : 20)) {
            return BAD_VALUE;
        }
        State before = state.copy();
        int previous = state.settings[setting];
        state.settings[setting] = value;
        return changed(before, previous);
    }

    int dial() {
        State before = state.copy();
        return changed(before, dialNow());
    }

    private int dialNow() {
        if (state.dials.size() == 15) {
            return TOO_MANY;
        }
        state.dials.add(new Dial());
        return state.dials.size() - 1;
    }

    int read(int dial, int time, int doubt) {
        State before = state.copy();
        return changed(before, readNow(dial, time, doubt));
    }

    private int readNow(int number, int time, int doubt) {
        if (number < 0 || number >= state.dials.size()) {
            return NO_SUCH;
        }
        if (time < 0 || time > 9999 || doubt < 0 || doubt > 300) {
            return BAD_VALUE;
        }
        Dial dial = state.dials.get(number);
        if (dial.struck) {
            return NOT_POSSIBLE;
        }
        int age = dial.hasReading ? state.now - dial.since : NONE;
        dial.hasReading = true;
        dial.told = time;
        dial.doubt = doubt;
        dial.since = state.now;
        return age;
    }

    int pass(int minutes) {
        State before = state.copy();
        return changed(before, passNow(minutes));
    }

    private int passNow(int minutes) {
        if (minutes < 1 || minutes > 1440) {
            return BAD_VALUE;
        }
        if (state.now + minutes > 99999) {
            return NOT_POSSIBLE;
        }
        state.now += minutes;
        return state.now;
    }

    int agree() {
        State before = state.copy();
        return changed(before, agreeNow());
    }

    private int agreeNow() {
        List<Span> spans = spans(state.now, -1);
        if (spans.isEmpty()) {
            return NOT_POSSIBLE;
        }
        int hour = bestRun(spans).hour();
        for (Span span : spans) {
            Dial dial = state.dials.get(span.dial());
            if (span.has(hour)) {
                dial.liesInRow = 0;
            } else {
                dial.lies++;
                dial.liesInRow++;
                dial.struck = dial.liesInRow >= state.settings[1];
            }
        }
        state.agreed++;
        state.latest = hour + 100000;
        return hour + 100000;
    }

    private List<Span> spans(int time, int leftOut) {
        List<Span> spans = new ArrayList<>();
        for (int number = 0; number < state.dials.size(); number++) {
            Dial dial = state.dials.get(number);
            if (dial.hasReading && !dial.struck && number != leftOut) {
                int age = time - dial.since;
                int reach = dial.doubt + state.settings[0] * Math.floorDiv(age, 60);
                spans.add(new Span(dial.told + age - reach, dial.told + age + reach, number));
            }
        }
        return spans;
    }

    /** The first times, side by side, that at least so many spans have. */
    private static Run firstRun(List<Span> spans, int least) {
        int from = Integer.MAX_VALUE;
        int to = Integer.MIN_VALUE;
        for (Span span : spans) {
            from = Math.min(from, span.low());
            to = Math.max(to, span.high());
        }
        if (spans.isEmpty()) {
            return null;
        }
        int[] steps = new int[to - from + 2];
        for (Span span : spans) {
            steps[span.low() - from]++;
            steps[span.high() - from + 1]--;
        }
        int many = 0;
        int low = Integer.MIN_VALUE;
        for (int i = 0; i < steps.length; i++) {
            many += steps[i];
            boolean enough = many >= least;
            if (enough && low == Integer.MIN_VALUE) {
                low = from + i;
            }
            if (!enough && low != Integer.MIN_VALUE) {
                return new Run(low, from + i - 1, least);
            }
        }
        return null;
    }

    private static Run bestRun(List<Span> spans) {
        for (int many = spans.size(); many > 0; many--) {
            Run run = firstRun(spans, many);
            if (run != null) {
                return run;
            }
        }
        return null;
    }

    int of(int number, int what) {
        if (number < 0 || number >= state.dials.size()) {
            return NO_SUCH;
        }
        if (what < 0 || what > 6) {
            return BAD_VALUE;
        }
        Dial dial = state.dials.get(number);
        if (what < 2) {
            for (Span span : spans(state.now, -1)) {
                if (span.dial() == number) {
                    return 100000 + (what == 0 ? span.low() : span.high());
                }
            }
            return NONE;
        }
        int age = dial.hasReading ? state.now - dial.since : NONE;
        int doubt = dial.hasReading ? dial.doubt : NONE;
        return new int[] {age, doubt, dial.lies, dial.liesInRow, dial.struck ? 1 : 0}[what - 2];
    }

    int best(int what) {
        if (what < 0 || what > 4) {
            return BAD_VALUE;
        }
        List<Span> spans = spans(state.now, -1);
        if (spans.isEmpty()) {
            return NONE;
        }
        Run run = bestRun(spans);
        int set = 0;
        for (Span span : spans) {
            if (span.has(run.hour())) {
                set += 1 << span.dial();
            }
        }
        return new int[] {run.many(), 100000 + run.low(), 100000 + run.high(), 100000 + run.hour(), set}[what];
    }

    int end(int rank, int what) {
        List<int[]> ends = new ArrayList<>();
        for (Span span : spans(state.now, -1)) {
            ends.add(new int[] {span.low(), 0, span.dial()});
            ends.add(new int[] {span.high(), 1, span.dial()});
        }
        ends.sort(Arrays::compare);
        if (rank < 0 || rank >= ends.size()) {
            return NO_SUCH;
        }
        if (what < 0 || what > 2) {
            return BAD_VALUE;
        }
        int[] end = ends.get(rank);
        return what == 0 ? end[0] + 100000 : what == 1 ? end[2] : end[1];
    }

    int overlap(int time) {
        if (time < -99999 || time > 299999) {
            return BAD_VALUE;
        }
        int many = 0;
        for (Span span : spans(state.now, -1)) {
            many += span.has(time) ? 1 : 0;
        }
        return many;
    }

    int count(int what) {
        if (what < 0 || what > 9) {
            return BAD_VALUE;
        }
        int withSpans = 0;
        for (Span span : spans(state.now, -1)) {
            withSpans += 1 << span.dial();
        }
        int struck = 0;
        for (int number = 0; number < state.dials.size(); number++) {
            struck += state.dials.get(number).struck ? 1 << number : 0;
        }
        return new int[] {state.now, state.dials.size(), withSpans, struck, state.agreed, state.latest,
            state.settings[0], state.settings[1], pad.length(), history.size()}[what];
    }

    long mean() {
        double products = 0.0;
        double weights = 0.0;
        for (Span span : spans(state.now, -1)) {
            double weight = 1.0 / (span.high() - span.low() + 1);
            products += (double) (span.low() + span.high()) / 2 * weight;
            weights += weight;
        }
        return Double.doubleToLongBits(weights == 0.0 ? 0.0 : products / weights);
    }

    int share() {
        List<Span> spans = spans(state.now, -1);
        return Float.floatToIntBits(spans.isEmpty() ? 0.0f : (float) bestRun(spans).many() / spans.size());
    }

    int allowing(int liars, int what) {
        if (liars < 0 || liars > 14 || what < 0 || what > 1) {
            return BAD_VALUE;
        }
        List<Span> spans = spans(state.now, -1);
        Run run = firstRun(spans, Math.max(1, spans.size() - liars));
        return run == null ? NONE : 100000 + (what == 0 ? run.low() : run.high());
    }

    int fewest() {
        List<Span> spans = spans(state.now, -1);
        for (int liars = 0; liars < spans.size(); liars++) {
            if (firstRun(spans, spans.size() - liars) != null) {
                return liars;
            }
        }
        return NONE;
    }

    int widerIn(int many) {
        if (many < 1 || many > 15) {
            return BAD_VALUE;
        }
        for (int hours = 0; hours <= 200; hours++) {
            List<Span> spans = spans(state.now + 60 * hours, -1);
            for (Span one : spans) {
                int together = 0;
                for (Span other : spans) {
                    together += other.has(one.high()) ? 1 : 0;
                }
                if (together >= many) {
                    return hours;
                }
            }
        }
        return NONE;
    }

    int without(int dial) {
        if (dial < 0 || dial >= state.dials.size()) {
            return NO_SUCH;
        }
        List<Span> spans = spans(state.now, dial);
        return spans.isEmpty() ? NONE : bestRun(spans).hour() + 100000;
    }

    int put(long characters) {
        StringBuilder backwards = new StringBuilder();
        long rest = characters;
        while (rest != 0) {
            int code = (int) (rest & 255);
            if (code < 33 || code > 126) {
                return BAD_VALUE;
            }
            backwards.append((char) code);
            rest >>>= 8;
        }
        if (backwards.length() == 0) {
            return BAD_VALUE;
        }
        if (pad.length() + backwards.length() > 80) {
            return TOO_MANY;
        }
        pad += backwards.reverse();
        return pad.length();
    }

    int wipe() {
        int length = pad.length();
        pad = "";
        return length;
    }

    int fault() {
        for (int length = 1; length <= pad.length(); length++) {
            Matcher matcher = TEXT.matcher(pad.substring(0, length));
            if (!matcher.matches() && !matcher.hitEnd()) {
                return length - 1;
            }
        }
        return TEXT.matcher(pad).matches() ? NONE : pad.length();
    }

    int carryOut() {
        if (fault() != NONE) {
            return BAD_TEXT;
        }
        State before = state.copy();
        int carried = 0;
        for (String order : pad.split(";")) {
            int answer = carry(order);
            if (answer < 0 && answer != NONE) {
                break;
            }
            carried++;
        }
        pad = "";
        return changed(before, carried);
    }

    private int carry(String order) {
        if (order.equals("d")) {
            return dialNow();
        }
        if (order.equals("a")) {
            return agreeNow();
        }
        String[] numbers = order.substring(1).split("[=~]");
        if (order.charAt(0) == 't') {
            return passNow(Integer.parseInt(numbers[0]));
        }
        return readNow(Integer.parseInt(numbers[0]), Integer.parseInt(numbers[1]),
            numbers.length < 3 ? 0 : Integer.parseInt(numbers[2]));
    }

    int undo() {
        if (history.isEmpty()) {
            return NOT_POSSIBLE;
        }
        state = history.removeLast();
        return history.size();
    }

    int save(int slot) {
        if (slot < 0 || slot > 1) {
            return BAD_VALUE;
        }
        slots[slot] = state.copy();
        return state.dials.size();
    }

    int restore(int slot) {
        if (slot < 0 || slot > 1) {
            return BAD_VALUE;
        }
        if (slots[slot] == null) {
            return NOT_POSSIBLE;
        }
        State before = state;
        state = slots[slot].copy();
        return changed(before, state.dials.size());
    }
}
