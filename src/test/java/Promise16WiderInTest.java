/** Promise 16: widerIn. */
final class Promise16WiderInTest {
    public static void main(String[] args) {
        Check check = new Check("widerIn");
        SundialSpans court = Check.withReadings(600, 5, 604, 3, 608, 2, 640, 10);
        check.due("widerIn(1)", court.widerIn(1), 0);
        check.due("widerIn(2)", court.widerIn(2), 0);
        check.due("widerIn(3)", court.widerIn(3), 1);
        check.due("widerIn(4)", court.widerIn(4), 7);
        check.due("widerIn(5)", court.widerIn(5), Check.NONE);
        check.due("widerIn(15)", court.widerIn(15), Check.NONE);
        check.due("the time of now stays", court.count(0), 0);
        court.set(SundialSpans.WIDEN, 0);
        check.due("widerIn(2) with WIDEN 0", court.widerIn(2), 0);
        check.due("widerIn(3) with WIDEN 0", court.widerIn(3), Check.NONE);

        check.due("widerIn(1) without spans", new SundialSpans().widerIn(1), Check.NONE);
        for (int many : new int[] {0, -1, 16, Integer.MAX_VALUE, Integer.MIN_VALUE}) {
            check.due("widerIn(" + many + ")", court.widerIn(many), Check.BAD_VALUE);
            check.due("widerIn(" + many + ") without spans", new SundialSpans().widerIn(many), Check.BAD_VALUE);
        }
        hoursOfEachNumber(check);
        wholeHoursFromNow(check);
        aboveTheBoundOfTime(check);
        check.end();
    }

    /** With WIDEN 1, two spans come 2 minutes nearer in each hour. */
    private static void hoursOfEachNumber(Check check) {
        for (int hours = 0; hours <= 210; hours++) {
            int due = hours <= 200 ? hours : Check.NONE;
            SundialSpans even = Check.withReadings(1000, 0, 1000 + 2 * hours, 0);
            even.set(SundialSpans.WIDEN, 1);
            check.due("widerIn(2) over " + 2 * hours, even.widerIn(2), due);
            SundialSpans odd = Check.withReadings(1000, 1, 1001 + 2 * hours, 0);
            odd.set(SundialSpans.WIDEN, 1);
            check.due("widerIn(2) over " + 2 * hours + " once more", odd.widerIn(2), due);
        }
    }

    /** Hours are told from now: a part of an hour that a reading is old counts on top. */
    private static void wholeHoursFromNow(Check check) {
        SundialSpans court = Check.withReadings(1000, 0);
        court.pass(59);
        court.read(court.dial(), 1067, 0);
        check.due("widerIn(2) with ages 59 and 0", court.widerIn(2), 2);
        court.pass(1);
        check.due("low end of the older one", court.of(0, 0), 101058);
        check.due("widerIn(2) with ages 60 and 1", court.widerIn(2), 2);
    }

    private static void aboveTheBoundOfTime(Check check) {
        SundialSpans court = new SundialSpans();
        for (int day = 0; day < 69; day++) {
            court.pass(1440);
        }
        court.pass(639);
        court.read(court.dial(), 100, 0);
        court.read(court.dial(), 500, 0);
        check.due("widerIn(2) at 99999", court.widerIn(2), 100);
    }
}
