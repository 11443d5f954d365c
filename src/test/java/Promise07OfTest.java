/** Promise 7: of. */
final class Promise07OfTest {
    public static void main(String[] args) {
        Check check = new Check("of");
        SundialSpans court = new SundialSpans();
        court.dial();
        court.dial();
        court.read(1, 1000, 20);
        row(check, "no reading", court, 0, Check.NONE, Check.NONE, Check.NONE, Check.NONE, 0, 0, 0);
        row(check, "just read", court, 1, 100980, 101020, 0, 20, 0, 0, 0);
        court.pass(59);
        row(check, "age 59", court, 1, 101039, 101079, 59, 20, 0, 0, 0);
        court.pass(1);
        row(check, "age 60", court, 1, 101038, 101082, 60, 20, 0, 0, 0);
        court.pass(60);
        row(check, "age 120", court, 1, 101096, 101144, 120, 20, 0, 0, 0);

        SundialSpans below = Check.withReadings(0, 300);
        check.due("a low end below 0", below.of(0, 0), 99700);

        struckDial(check);
        errors(check, court);
        check.end();
    }

    private static void row(Check check, String when, SundialSpans court, int dial, int... wanted) {
        for (int what = 0; what < wanted.length; what++) {
            check.due(when + ": of(" + dial + ", " + what + ")", court.of(dial, what), wanted[what]);
        }
    }

    private static void struckDial(Check check) {
        SundialSpans court = Check.withReadings(10, 0, 10, 0, 50, 7);
        court.agree();
        court.set(SundialSpans.OFTEN, 2);
        court.pass(30);
        court.agree();
        row(check, "struck", court, 2, Check.NONE, Check.NONE, 30, 7, 2, 2, 1);
        court.pass(30);
        check.due("the age of a struck one goes on", court.of(2, 2), 60);
    }

    private static void errors(Check check, SundialSpans court) {
        for (int dial : new int[] {-1, 2, 15, 31, 32, Integer.MAX_VALUE, Integer.MIN_VALUE}) {
            check.due("of(" + dial + ", 0)", court.of(dial, 0), Check.NO_SUCH);
            check.due("of(" + dial + ", 7)", court.of(dial, 7), Check.NO_SUCH);
        }
        for (int what : new int[] {-1, 7, Integer.MAX_VALUE, Integer.MIN_VALUE}) {
            check.due("of(0, " + what + ")", court.of(0, what), Check.BAD_VALUE);
            check.due("of(1, " + what + ")", court.of(1, what), Check.BAD_VALUE);
        }
    }
}
