/**
 * Sundials some of which lie: each one tells a time with a doubt, and the hour is taken from where the most spans
 * overlap. The promises of ../shared/DOC.md say what each call answers.
 */
public final class SundialSpans {
    public static final int NO_SUCH = -1, BAD_VALUE = -2, BAD_TEXT = -3, TOO_MANY = -4, NOT_POSSIBLE = -5, NONE = -6;
    public static final int WIDEN = 0, OFTEN = 1;

    private static final int MOST_WIDEN = 60, MOST_OFTEN = 20;
    private static final int MOST_DIALS = 15;
    private static final int MOST_TOLD = 9999, MOST_DOUBT = 300;
    private static final int MOST_MINUTES = 1440, MOST_NOW = 99999;
    private static final int MINUTES_OF_HOUR = 60, MOST_HOURS = 200;
    private static final int LEAST_ASKED = -99999, MOST_ASKED = 299999;
    private static final int MOST_SIGNS = 80, SIGNS_AT_ONCE = 8;
    private static final int MOST_UNDOS = 6, SLOTS = 2;
    private static final int NO_DIAL = -1;
    /** Added to each time that is told, as times can be below 0 and would be taken for errors. */
    private static final int SHIFT = 100000;
    /** Above every end that a span can have. */
    private static final int NO_TIME = 1000000;

    private final Court court;
    private final Spans spans;
    private final History history;
    private final Slots slots;
    private final Pad pad;

    public SundialSpans() {
        court = new Court();
        spans = new Spans();
        history = new History();
        slots = new Slots();
        pad = new Pad();
    }

    // ---- changes

    public int set(int setting, int value) {
        history.draft(court);
        return history.keep(court.changeSetting(setting, value));
    }

    public int dial() {
        history.draft(court);
        return history.keep(court.addDial());
    }

    public int read(int dial, int time, int doubt) {
        history.draft(court);
        return history.keep(court.takeReading(dial, time, doubt));
    }

    public int pass(int minutes) {
        history.draft(court);
        return history.keep(court.letPass(minutes));
    }

    public int agree() {
        history.draft(court);
        return history.keep(findHour());
    }

    private int findHour() {
        gatherNow(NO_DIAL);
        if (spans.isEmpty()) {
            return NOT_POSSIBLE;
        }
        int hour = spans.hour();
        court.judge(hour, spans.dialsAt(hour));
        return hour + SHIFT;
    }

    private void gatherNow(int leftOut) {
        spans.gather(court, court.now(), leftOut);
    }

    private static boolean isError(int answer) {
        return answer < 0 && answer != NONE;
    }

    // ---- what there is

    public int of(int dial, int what) {
        if (!court.hasDial(dial)) {
            return NO_SUCH;
        }
        return court.about(dial, what);
    }

    public int best(int what) {
        if (what < 0 || what > 4) {
            return BAD_VALUE;
        }
        gatherNow(NO_DIAL);
        if (spans.isEmpty()) {
            return NONE;
        }
        switch (what) {
            case 0:
                return spans.most();
            case 1:
                return spans.bestLow() + SHIFT;
            case 2:
                return spans.bestHigh() + SHIFT;
            case 3:
                return spans.hour() + SHIFT;
            default:
                return spans.dialsAt(spans.hour());
        }
    }

    public int end(int rank, int what) {
        gatherNow(NO_DIAL);
        if (rank < 0 || rank >= spans.ends()) {
            return NO_SUCH;
        }
        int key = spans.endKey(rank);
        switch (what) {
            case 0:
                return Spans.timeOfKey(key) + SHIFT;
            case 1:
                return Spans.dialOfKey(key);
            case 2:
                return Spans.sideOfKey(key);
            default:
                return BAD_VALUE;
        }
    }

    public int overlap(int time) {
        if (time < LEAST_ASKED || time > MOST_ASKED) {
            return BAD_VALUE;
        }
        gatherNow(NO_DIAL);
        return spans.howManyAt(time);
    }

    public int count(int what) {
        if (what == 8) {
            return pad.length();
        }
        if (what == 9) {
            return history.size();
        }
        return court.number(what);
    }

    public long mean() {
        gatherNow(NO_DIAL);
        return Bits.ofDouble(spans.weightedMean());
    }

    public int share() {
        gatherNow(NO_DIAL);
        return Bits.ofFloat(spans.honestShare());
    }

    // ---- what if

    public int allowing(int liars, int what) {
        if (liars < 0 || liars >= MOST_DIALS || what < 0 || what > 1) {
            return BAD_VALUE;
        }
        gatherNow(NO_DIAL);
        int needed = Math.max(1, spans.size() - liars);
        int low = spans.firstTimeOf(needed);
        if (low == NO_TIME) {
            return NONE;
        }
        return SHIFT + (what == 0 ? low : spans.lastTimeOf(needed, low));
    }

    public int fewest() {
        gatherNow(NO_DIAL);
        return spans.isEmpty() ? NONE : spans.size() - spans.most();
    }

    public int widerIn(int many) {
        if (many < 1 || many > MOST_DIALS) {
            return BAD_VALUE;
        }
        int hours = hoursTooEarly(many);
        return hours > MOST_HOURS ? NONE : hours;
    }

    /**
     * How many of the hours 0 to 254 from now are too early for so many spans to overlap. An hour makes all spans
     * wider by the same, so once enough of them overlap they always will: halving finds the first such hour.
     */
    private int hoursTooEarly(int many) {
        int hours = 0;
        for (int step = 128; step > 0; step = step / 2) {
            int last = hours + step - 1;
            spans.gather(court, court.now() + last * MINUTES_OF_HOUR, NO_DIAL);
            if (spans.most() < many) {
                hours = hours + step;
            }
        }
        return hours;
    }

    public int without(int dial) {
        if (!court.hasDial(dial)) {
            return NO_SUCH;
        }
        gatherNow(dial);
        return spans.isEmpty() ? NONE : spans.hour() + SHIFT;
    }

    // ---- texts

    public int put(long characters) {
        int many = Pad.signsIn(characters);
        if (many == 0) {
            return BAD_VALUE;
        }
        if (pad.length() + many > MOST_SIGNS) {
            return TOO_MANY;
        }
        pad.append(characters, many);
        return pad.length();
    }

    public int wipe() {
        int before = pad.length();
        pad.clear();
        return before;
    }

    public int fault() {
        return pad.firstFault();
    }

    public int carryOut() {
        if (pad.firstFault() != NONE) {
            return BAD_TEXT;
        }
        history.draft(court);
        int carried = 0;
        pad.startReading();
        while (carried < MOST_SIGNS && pad.nextOrder() && !isError(carryOrder())) {
            carried++;
        }
        pad.clear();
        return history.keep(carried);
    }

    private int carryOrder() {
        char kind = pad.kind();
        if (kind == 'd') {
            return court.addDial();
        }
        if (kind == 'r') {
            return court.takeReading(pad.first(), pad.second(), pad.third());
        }
        if (kind == 't') {
            return court.letPass(pad.first());
        }
        return findHour();
    }

    // ---- undo, saving

    public int undo() {
        return history.takeBack(court);
    }

    public int save(int slot) {
        if (!Slots.hasSlot(slot)) {
            return BAD_VALUE;
        }
        slots.keepIn(slot, court);
        return court.dials();
    }

    public int restore(int slot) {
        if (!Slots.hasSlot(slot)) {
            return BAD_VALUE;
        }
        if (!slots.isFilled(slot)) {
            return NOT_POSSIBLE;
        }
        history.draft(court);
        slots.giveBack(slot, court);
        return history.keep(court.dials());
    }

    /** Everything that is undone and saved: the settings, the time of now, the dials and their agreeing. */
    private static final class Court {
        private int widen = 2;
        private int often = 3;
        private int now;
        private int dials;
        /** Dials that have a reading, as a set. */
        private int withReading;
        private int struck;
        private int agreed;
        private int latestHour;
        private final int[] told = new int[MOST_DIALS];
        private final int[] doubts = new int[MOST_DIALS];
        private final int[] readAt = new int[MOST_DIALS];
        private final int[] lies = new int[MOST_DIALS];
        private final int[] liesInRow = new int[MOST_DIALS];

        static void copy(Court from, Court to) {
            if (from == null || to == null) {
                return;
            }
            to.widen = from.widen;
            to.often = from.often;
            to.now = from.now;
            to.dials = from.dials;
            to.withReading = from.withReading;
            to.struck = from.struck;
            to.agreed = from.agreed;
            to.latestHour = from.latestHour;
            System.arraycopy(from.told, 0, to.told, 0, MOST_DIALS);
            System.arraycopy(from.doubts, 0, to.doubts, 0, MOST_DIALS);
            System.arraycopy(from.readAt, 0, to.readAt, 0, MOST_DIALS);
            System.arraycopy(from.lies, 0, to.lies, 0, MOST_DIALS);
            System.arraycopy(from.liesInRow, 0, to.liesInRow, 0, MOST_DIALS);
        }

        int now() {
            return now;
        }

        int dials() {
            return dials;
        }

        boolean hasDial(int dial) {
            return dial >= 0 && dial < dials;
        }

        boolean hasReading(int dial) {
            return (withReading >> dial & 1) == 1;
        }

        boolean isStruck(int dial) {
            return (struck >> dial & 1) == 1;
        }

        int dialsWithSpans() {
            return withReading & ~struck;
        }

        boolean hasSpan(int dial) {
            return (dialsWithSpans() >> dial & 1) == 1;
        }

        int lowEnd(int dial, int time) {
            int age = ageAt(dial, time);
            return told[dial] + age - reach(dial, age);
        }

        int highEnd(int dial, int time) {
            int age = ageAt(dial, time);
            return told[dial] + age + reach(dial, age);
        }

        private int ageAt(int dial, int time) {
            return time - readAt[dial];
        }

        private int reach(int dial, int age) {
            return doubts[dial] + widen * (age / MINUTES_OF_HOUR);
        }

        int changeSetting(int setting, int value) {
            if (setting == WIDEN && value >= 0 && value <= MOST_WIDEN) {
                int before = widen;
                widen = value;
                return before;
            }
            if (setting == OFTEN && value >= 1 && value <= MOST_OFTEN) {
                int before = often;
                often = value;
                return before;
            }
            return BAD_VALUE;
        }

        int addDial() {
            if (dials >= MOST_DIALS) {
                return TOO_MANY;
            }
            dials++;
            return dials - 1;
        }

        int takeReading(int dial, int time, int doubt) {
            if (!hasDial(dial)) {
                return NO_SUCH;
            }
            if (time < 0 || time > MOST_TOLD || doubt < 0 || doubt > MOST_DOUBT) {
                return BAD_VALUE;
            }
            if (isStruck(dial)) {
                return NOT_POSSIBLE;
            }
            int before = hasReading(dial) ? ageAt(dial, now) : NONE;
            told[dial] = time;
            doubts[dial] = doubt;
            readAt[dial] = now;
            withReading = withReading | 1 << dial;
            return before;
        }

        int letPass(int minutes) {
            if (minutes < 1 || minutes > MOST_MINUTES) {
                return BAD_VALUE;
            }
            if (now + minutes > MOST_NOW) {
                return NOT_POSSIBLE;
            }
            now = now + minutes;
            return now;
        }

        /** The dials agreed on an hour: those in "honest" have it in their spans. */
        void judge(int hour, int honest) {
            int judged = dialsWithSpans();
            for (int dial = 0; dial < MOST_DIALS; dial++) {
                if ((honest >> dial & 1) == 1) {
                    liesInRow[dial] = 0;
                } else if ((judged >> dial & 1) == 1) {
                    countLie(dial);
                }
            }
            agreed++;
            latestHour = hour;
        }

        private void countLie(int dial) {
            lies[dial]++;
            liesInRow[dial]++;
            if (liesInRow[dial] >= often) {
                struck = struck | 1 << dial;
            }
        }

        int about(int dial, int what) {
            switch (what) {
                case 0:
                    return hasSpan(dial) ? lowEnd(dial, now) + SHIFT : NONE;
                case 1:
                    return hasSpan(dial) ? highEnd(dial, now) + SHIFT : NONE;
                case 2:
                    return hasReading(dial) ? ageAt(dial, now) : NONE;
                case 3:
                    return hasReading(dial) ? doubts[dial] : NONE;
                case 4:
                    return lies[dial];
                case 5:
                    return liesInRow[dial];
                case 6:
                    return isStruck(dial) ? 1 : 0;
                default:
                    return BAD_VALUE;
            }
        }

        int number(int what) {
            switch (what) {
                case 0:
                    return now;
                case 1:
                    return dials;
                case 2:
                    return dialsWithSpans();
                case 3:
                    return struck;
                case 4:
                    return agreed;
                case 5:
                    return agreed == 0 ? NONE : latestHour + SHIFT;
                case 6:
                    return widen;
                case 7:
                    return often;
                default:
                    return BAD_VALUE;
            }
        }
    }

    /** The spans of a court at a time, by the numbers of their dials. Its rows are filled anew for each question. */
    private static final class Spans {
        private static final int LOW_SIDE = 0, HIGH_SIDE = 1;
        /** A key has a place for a dial below this. */
        private static final int DIALS_OF_KEY = 16;
        private static final int ENDS_OF_KEY = 2 * DIALS_OF_KEY;

        private final int[] lows = new int[MOST_DIALS];
        private final int[] highs = new int[MOST_DIALS];
        private final int[] owners = new int[MOST_DIALS];
        private int size;

        void gather(Court court, int time, int leftOut) {
            size = 0;
            for (int dial = 0; dial < MOST_DIALS; dial++) {
                if (dial != leftOut && court.hasSpan(dial)) {
                    lows[size] = court.lowEnd(dial, time);
                    highs[size] = court.highEnd(dial, time);
                    owners[size] = dial;
                    size++;
                }
            }
        }

        int size() {
            return size;
        }

        boolean isEmpty() {
            return size == 0;
        }

        private boolean has(int span, int time) {
            return lows[span] <= time && time <= highs[span];
        }

        int howManyAt(int time) {
            int many = 0;
            for (int span = 0; span < size; span++) {
                if (has(span, time)) {
                    many++;
                }
            }
            return many;
        }

        int dialsAt(int time) {
            int set = 0;
            for (int span = 0; span < size; span++) {
                if (has(span, time)) {
                    set = set | 1 << owners[span];
                }
            }
            return set;
        }

        /** How many spans the best overlap has. Overlaps grow at low ends alone, so no other times are looked at. */
        int most() {
            int most = 0;
            for (int span = 0; span < size; span++) {
                most = Math.max(most, howManyAt(lows[span]));
            }
            return most;
        }

        /** The least time that at least so many spans (1 or more) have, or NO_TIME. */
        int firstTimeOf(int needed) {
            int first = NO_TIME;
            for (int span = 0; span < size; span++) {
                if (lows[span] < first && howManyAt(lows[span]) >= needed) {
                    first = lows[span];
                }
            }
            return first;
        }

        /**
         * The greatest time up to which, from a time that at least so many spans have, all times have as many.
         * Another span can begin in the minute after an end, so an end alone does not tell it.
         */
        int lastTimeOf(int needed, int from) {
            int last = NO_TIME;
            for (int span = 0; span < size; span++) {
                int high = highs[span];
                if (high >= from && high < last && howManyAt(high + 1) < needed) {
                    last = high;
                }
            }
            return last;
        }

        int bestLow() {
            return firstTimeOf(most());
        }

        int bestHigh() {
            int most = most();
            return lastTimeOf(most, firstTimeOf(most));
        }

        int hour() {
            int most = most();
            int low = firstTimeOf(most);
            return Math.floorDiv(low + lastTimeOf(most, low), 2);
        }

        int ends() {
            return 2 * size;
        }

        /** The end with a rank, as a key; NO_TIME, which is no key that is asked for, if there are not so many. */
        int endKey(int rank) {
            for (int index = 0; index < ends(); index++) {
                int key = keyAt(index);
                if (keysBelow(key) == rank) {
                    return key;
                }
            }
            return NO_TIME;
        }

        private int keysBelow(int key) {
            int below = 0;
            for (int index = 0; index < ends(); index++) {
                if (keyAt(index) < key) {
                    below++;
                }
            }
            return below;
        }

        private int keyAt(int index) {
            if (index < size) {
                return keyOf(lows[index], LOW_SIDE, owners[index]);
            }
            return keyOf(highs[index - size], HIGH_SIDE, owners[index - size]);
        }

        /** Keys stand in the order of the ends: by time, then the side, then the dial. No two are the same. */
        private static int keyOf(int time, int side, int dial) {
            return time * ENDS_OF_KEY + side * DIALS_OF_KEY + dial;
        }

        static int timeOfKey(int key) {
            return Math.floorDiv(key, ENDS_OF_KEY);
        }

        static int sideOfKey(int key) {
            return Math.floorMod(key, ENDS_OF_KEY) / DIALS_OF_KEY;
        }

        static int dialOfKey(int key) {
            return Math.floorMod(key, DIALS_OF_KEY);
        }

        double weightedMean() {
            double products = 0.0;
            double weights = 0.0;
            for (int span = 0; span < size; span++) {
                double middle = (double) (lows[span] + highs[span]) / 2.0;
                double weight = 1.0 / (double) (highs[span] - lows[span] + 1);
                products = products + middle * weight;
                weights = weights + weight;
            }
            return weights > 0.0 ? products / weights : 0.0;
        }

        float honestShare() {
            return size == 0 ? 0.0f : (float) most() / (float) size;
        }
    }

    /** The states ahead of the latest changes, in a ring. */
    private static final class History {
        /** One more than can be undone: a state waits there until it is known whether its change returns an error. */
        private static final int PLACES = MOST_UNDOS + 1;

        private final Court[] places = new Court[PLACES];
        private int oldest;
        private int size;

        History() {
            for (int place = 0; place < PLACES; place++) {
                places[place] = new Court();
            }
        }

        int size() {
            return size;
        }

        private Court placeOf(int rank) {
            return places[Math.floorMod(oldest + rank, PLACES)];
        }

        void draft(Court before) {
            Court.copy(before, placeOf(size));
        }

        /** Records the draft, unless the change answered an error, and hands the answer on. */
        int keep(int answer) {
            if (isError(answer)) {
                return answer;
            }
            if (size < MOST_UNDOS) {
                size++;
            } else {
                oldest = Math.floorMod(oldest + 1, PLACES);
            }
            return answer;
        }

        int takeBack(Court court) {
            if (size == 0) {
                return NOT_POSSIBLE;
            }
            size--;
            Court.copy(placeOf(size), court);
            return size;
        }
    }

    private static final class Slots {
        private final Court[] kept = new Court[SLOTS];
        private final boolean[] filled = new boolean[SLOTS];

        Slots() {
            for (int slot = 0; slot < SLOTS; slot++) {
                kept[slot] = new Court();
            }
        }

        static boolean hasSlot(int slot) {
            return slot >= 0 && slot < SLOTS;
        }

        boolean isFilled(int slot) {
            return filled[slot];
        }

        void keepIn(int slot, Court court) {
            Court.copy(court, kept[slot]);
            filled[slot] = true;
        }

        void giveBack(int slot, Court court) {
            Court.copy(kept[slot], court);
        }
    }

    /** The text of orders, and the place up to which it is read. Where reading can't go on, that place is the fault. */
    private static final class Pad {
        private static final int MOST_NUMBER = 9999;
        private static final int FIRST_SIGN = 33, LAST_SIGN = 126;
        private static final int BITS_OF_SIGN = 8, SIGN_MASK = 255;
        /** Stands for the end of the text: no sign that can be put. */
        private static final char NO_SIGN = 0;

        private final char[] signs = new char[MOST_SIGNS];
        private int length;
        private int at;
        private char kind;
        private int first;
        private int second;
        private int third;
        /** The number that was read last. */
        private int number;

        /** How many characters are packed, or 0 if they are not packed as they have to be. */
        static int signsIn(long characters) {
            int many = 0;
            long rest = characters;
            while (many < SIGNS_AT_ONCE && isSign(rest & SIGN_MASK)) {
                many++;
                rest = rest >>> BITS_OF_SIGN;
            }
            return rest == 0 ? many : 0;
        }

        private static boolean isSign(long code) {
            return code >= FIRST_SIGN && code <= LAST_SIGN;
        }

        /** Appends the lowest "many" characters, while there is room. */
        void append(long characters, int many) {
            for (int sign = many - 1; sign >= 0 && length < MOST_SIGNS; sign--) {
                signs[length] = (char) (characters >>> sign * BITS_OF_SIGN & SIGN_MASK);
                length++;
            }
        }

        void clear() {
            length = 0;
        }

        int length() {
            return length;
        }

        char kind() {
            return kind;
        }

        int first() {
            return first;
        }

        int second() {
            return second;
        }

        int third() {
            return third;
        }

        int firstFault() {
            startReading();
            for (int orders = 0; orders < MOST_SIGNS; orders++) {
                if (!nextOrder()) {
                    return at;
                }
                if (at == length) {
                    return NONE;
                }
            }
            return at;
        }

        void startReading() {
            at = 0;
        }

        /** Reads one order more. If it can't, because of a fault or the end of the text, it answers false. */
        boolean nextOrder() {
            if (at > 0 && !take(';')) {
                return false;
            }
            kind = sign();
            third = 0;
            if (take('d') || take('a')) {
                return true;
            }
            if (take('t')) {
                return takeFirst();
            }
            return take('r') && takeFirst() && take('=') && takeSecond() && (!take('~') || takeThird());
        }

        private boolean takeFirst() {
            boolean taken = takeNumber();
            first = number;
            return taken;
        }

        private boolean takeSecond() {
            boolean taken = takeNumber();
            second = number;
            return taken;
        }

        private boolean takeThird() {
            boolean taken = takeNumber();
            third = number;
            return taken;
        }

        /** A digit behind a 0, or one too many, is left: what has to follow the number refuses it at its place. */
        private boolean takeNumber() {
            number = 0;
            int from = at;
            while (at < length && isDigit(sign()) && (at == from || number > 0) && withDigit(sign()) <= MOST_NUMBER) {
                number = withDigit(sign());
                at++;
            }
            return at > from;
        }

        private int withDigit(char digit) {
            return number * 10 + (digit - '0');
        }

        private static boolean isDigit(char sign) {
            return sign >= '0' && sign <= '9';
        }

        private boolean take(char wanted) {
            if (sign() != wanted) {
                return false;
            }
            at++;
            return true;
        }

        private char sign() {
            return at >= 0 && at < length ? signs[at] : NO_SIGN;
        }
    }

    /** The bits of numbers, worked out by halving and doubling, as LANGUAGE.md leaves no library for them. */
    private static final class Bits {
        private static final int BIAS_OF_DOUBLE = 1023, BIAS_OF_FLOAT = 127;
        private static final int FRACTION_OF_DOUBLE = 52, FRACTION_OF_FLOAT = 23;

        /** Of 0.0, or of a number above it that is neither too small nor too great for a leading 1 in its fraction. */
        static long ofDouble(double value) {
            if (value <= 0.0) {
                return 0L;
            }
            double fraction = value;
            long exponent = BIAS_OF_DOUBLE;
            while (fraction >= 2.0 && exponent < 2 * BIAS_OF_DOUBLE) {
                fraction = fraction / 2.0;
                exponent++;
            }
            while (fraction < 1.0 && exponent > 1) {
                fraction = fraction * 2.0;
                exponent--;
            }
            return (exponent << FRACTION_OF_DOUBLE) + (long) ((fraction - 1.0) * (double) (1L << FRACTION_OF_DOUBLE));
        }

        /** Like those of the same number as a double, with a shorter fraction and another bias. */
        static int ofFloat(float value) {
            if (value <= 0.0f) {
                return 0;
            }
            long bits = ofDouble((double) value) >>> (FRACTION_OF_DOUBLE - FRACTION_OF_FLOAT);
            return (int) (bits - ((long) (BIAS_OF_DOUBLE - BIAS_OF_FLOAT) << FRACTION_OF_FLOAT));
        }
    }
}
