/** Promise 15: fewest. */
final class Promise15FewestTest {
    public static void main(String[] args) {
        Check check = new Check("fewest");
        SundialSpans empty = new SundialSpans();
        check.due("fewest() without dials", empty.fewest(), Check.NONE);
        empty.dial();
        check.due("fewest() without spans", empty.fewest(), Check.NONE);
        check.due("fewest() of one", Check.withReadings(5, 0).fewest(), 0);
        check.due("fewest() of two apart", Check.withReadings(5, 0, 6, 0).fewest(), 1);
        check.due("fewest() of two together", Check.withReadings(5, 0, 6, 1).fewest(), 0);
        check.due("fewest() of four", Check.withReadings(600, 5, 604, 3, 608, 2, 640, 10).fewest(), 2);

        SundialSpans court = new SundialSpans();
        for (int dial = 0; dial < 15; dial++) {
            court.dial();
            court.read(dial, dial * 100, 1);
        }
        check.due("fewest() of 15 apart", court.fewest(), 14);
        court.set(SundialSpans.OFTEN, 1);
        court.agree();
        check.due("fewest() when they are struck", court.fewest(), 0);
        check.end();
    }
}
