/** Objects in states that many tests begin with. */
final class Make {
    /** Numbers far out of every range, at the ends of int. */
    static final int LEAST = Integer.MIN_VALUE, MOST = Integer.MAX_VALUE;

    private Make() {
    }

    static SundialSpans dials(int many) {
        SundialSpans court = new SundialSpans();
        for (int dial = 0; dial < many; dial++) {
            court.dial();
        }
        return court;
    }

    /** Dials that all tell the same. */
    static SundialSpans crowd(int many, int time, int doubt) {
        SundialSpans court = new SundialSpans();
        for (int dial = 0; dial < many; dial++) {
            court.read(court.dial(), time, doubt);
        }
        return court;
    }

    /** 15 dials without a time in common: one minute each, three minutes apart. */
    static SundialSpans lonely() {
        SundialSpans court = new SundialSpans();
        for (int dial = 0; dial < 15; dial++) {
            court.read(court.dial(), 100 + 3 * dial, 0);
        }
        return court;
    }

    /** Dials 0 and 1 are honest; dial 2 has lied so many times in a row. */
    static SundialSpans liar(int lies, int often) {
        SundialSpans court = Check.withReadings(600, 0, 600, 0, 700, 0);
        court.set(SundialSpans.OFTEN, often);
        agree(court, lies);
        return court;
    }

    static void agree(SundialSpans court, int times) {
        for (int time = 0; time < times; time++) {
            court.agree();
        }
    }

    static void passTo(SundialSpans court, int now) {
        int at = court.count(0);
        // A program that is wrong may never come there.
        for (int days = 0; at < now && days < 80; days++) {
            at = court.pass(Math.min(1440, now - at));
        }
    }

    /** Its 80 characters are 39 dials and 7 minutes. */
    static SundialSpans withFullPad() {
        return Check.withPad("d;".repeat(39) + "t7");
    }
}
