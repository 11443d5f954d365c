/** Promise 8: best. */
final class Promise08BestTest {
    public static void main(String[] args) {
        Check check = new Check("best");
        errors(check, new SundialSpans());
        SundialSpans empty = new SundialSpans();
        empty.dial();
        for (int what = 0; what < 5; what++) {
            check.due("best(" + what + ") without spans", empty.best(what), Check.NONE);
        }

        row(check, "one span", Check.withReadings(100, 5), 1, 100095, 100105, 100100, 1);
        row(check, "apart: the first one", Check.withReadings(500, 5, 100, 5), 1, 100095, 100105, 100100, 2);
        row(check, "in one minute", Check.withReadings(100, 5, 110, 5), 2, 100105, 100105, 100105, 3);
        row(check, "side by side", Check.withReadings(100, 2, 105, 2), 1, 100098, 100107, 100102, 1);
        row(check, "a minute between", Check.withReadings(100, 2, 106, 2), 1, 100098, 100102, 100100, 1);
        row(check, "side by side, inside of a third", Check.withReadings(7, 1, 2, 3, 100, 100, 300, 0),
            2, 100000, 100008, 100004, 6);
        row(check, "two as good ones", Check.withReadings(10, 1, 10, 1, 20, 1, 20, 1), 2, 100009, 100011, 100010, 3);
        row(check, "below 0", Check.withReadings(0, 10, 1, 300, 9, 10), 3, 99999, 100010, 100004, 7);
        row(check, "15 dials", fifteen(), 15, 100114, 100200, 100157, 32767);
        struckOnesAreLeftOut(check);
        errors(check, fifteen());
        check.end();
    }

    private static SundialSpans fifteen() {
        SundialSpans court = new SundialSpans();
        for (int dial = 0; dial < 15; dial++) {
            court.dial();
            court.read(dial, 200 + dial, 100 - (dial == 0 ? 100 : 0));
        }
        court.read(0, 200, 0);
        court.read(0, 150, 50);
        return court;
    }

    private static void struckOnesAreLeftOut(Check check) {
        SundialSpans court = Check.withReadings(10, 0, 10, 0, 20, 0, 20, 0, 20, 0);
        row(check, "before", court, 3, 100020, 100020, 100020, 28);
        court.set(SundialSpans.OFTEN, 1);
        court.agree();
        row(check, "two are struck", court, 3, 100020, 100020, 100020, 28);
        court.read(4, 10, 0);
        court.read(3, 10, 0);
        row(check, "struck ones do not count", court, 2, 100010, 100010, 100010, 24);
    }

    private static void row(Check check, String when, SundialSpans court, int... wanted) {
        for (int what = 0; what < wanted.length; what++) {
            check.due(when + ": best(" + what + ")", court.best(what), wanted[what]);
        }
    }

    private static void errors(Check check, SundialSpans court) {
        for (int what : new int[] {-1, 5, Integer.MAX_VALUE, Integer.MIN_VALUE}) {
            check.due("best(" + what + ")", court.best(what), Check.BAD_VALUE);
        }
    }
}
