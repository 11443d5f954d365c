/** Promise 11: count. */
final class Promise11CountTest {
    public static void main(String[] args) {
        Check check = new Check("count");
        SundialSpans court = Check.withReadings(100, 0, 100, 0, 200, 0);
        court.dial();
        row(check, "read", court, 0, 4, 7, 0, 0, Check.NONE, 2, 3, 0, 6);
        court.pass(60);
        court.set(SundialSpans.WIDEN, 5);
        court.set(SundialSpans.OFTEN, 1);
        court.put(Check.packed("t1;a"));
        row(check, "later", court, 60, 4, 7, 0, 0, Check.NONE, 5, 1, 4, 6);
        court.agree();
        row(check, "agreed", court, 60, 4, 3, 4, 1, 100160, 5, 1, 4, 6);
        court.carryOut();
        row(check, "carried out", court, 61, 4, 3, 4, 2, 100161, 5, 1, 0, 6);
        court.undo();
        row(check, "undone", court, 60, 4, 3, 4, 1, 100160, 5, 1, 0, 5);
        for (int what : new int[] {-1, 10, Integer.MAX_VALUE, Integer.MIN_VALUE}) {
            check.due("count(" + what + ")", court.count(what), Check.BAD_VALUE);
        }
        latestHourOf0(check);
        check.end();
    }

    private static void latestHourOf0(Check check) {
        SundialSpans court = Check.withReadings(0, 5);
        court.agree();
        check.due("the latest hour, 0", court.count(5), 100000);
    }

    private static void row(Check check, String when, SundialSpans court, int... wanted) {
        for (int what = 0; what < wanted.length; what++) {
            check.due(when + ": count(" + what + ")", court.count(what), wanted[what]);
        }
    }
}
