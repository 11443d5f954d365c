/** Promise 17: without. */
final class Promise17WithoutTest {
    public static void main(String[] args) {
        Check check = new Check("without");
        SundialSpans court = Check.withReadings(600, 5, 604, 3, 608, 2, 640, 10);
        court.dial();
        check.due("without(0)", court.without(0), 100606);
        check.due("without(1), two side by side", court.without(1), 100602);
        check.due("without(2)", court.without(2), 100603);
        check.due("without(3)", court.without(3), 100604);
        check.due("without(4), that has no span", court.without(4), 100604);
        check.due("nothing changes: agree()", court.agree(), 100604);

        SundialSpans one = Check.withReadings(600, 5);
        one.dial();
        check.due("without the only span", one.without(0), Check.NONE);
        check.due("without another one", one.without(1), 100600);
        check.due("without a dial of a court without spans", emptyCourt().without(0), Check.NONE);
        for (int dial : new int[] {-1, 2, 15, Integer.MAX_VALUE, Integer.MIN_VALUE}) {
            check.due("without(" + dial + ")", one.without(dial), Check.NO_SUCH);
        }
        check.due("without(0) without dials", new SundialSpans().without(0), Check.NO_SUCH);
        struckDial(check);
        check.end();
    }

    private static SundialSpans emptyCourt() {
        SundialSpans court = new SundialSpans();
        court.dial();
        return court;
    }

    private static void struckDial(Check check) {
        SundialSpans court = Check.withReadings(100, 5, 900, 0, 900, 0);
        court.set(SundialSpans.OFTEN, 1);
        court.agree();
        check.due("without(1)", court.without(1), 100900);
        check.due("without(0), that is struck", court.without(0), 100900);
    }
}
