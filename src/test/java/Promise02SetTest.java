/** Promise 2: set. */
final class Promise02SetTest {
    public static void main(String[] args) {
        Check check = new Check("set");
        SundialSpans court = new SundialSpans();
        check.due("set(0, 60)", court.set(SundialSpans.WIDEN, 60), 2);
        check.due("set(0, 0)", court.set(SundialSpans.WIDEN, 0), 60);
        check.due("set(0, 7)", court.set(SundialSpans.WIDEN, 7), 0);
        check.due("set(1, 20)", court.set(SundialSpans.OFTEN, 20), 3);
        check.due("set(1, 1)", court.set(SundialSpans.OFTEN, 1), 20);
        check.due("set(1, 1) again", court.set(SundialSpans.OFTEN, 1), 1);
        check.due("count(6)", court.count(6), 7);
        check.due("count(7)", court.count(7), 1);
        check.due("each set() is a change: count(9)", court.count(9), 6);

        SundialSpans quiet = new SundialSpans();
        int[][] refused = {
            {0, -1}, {0, 61}, {0, Integer.MAX_VALUE}, {0, Integer.MIN_VALUE}, {1, 0}, {1, 21}, {1, -1},
            {-1, 1}, {2, 1}, {Integer.MAX_VALUE, 1}, {Integer.MIN_VALUE, 1}};
        for (int[] pair : refused) {
            check.due("set(" + pair[0] + ", " + pair[1] + ")", quiet.set(pair[0], pair[1]), Check.BAD_VALUE);
        }
        check.due("WIDEN after errors", quiet.count(6), 2);
        check.due("OFTEN after errors", quiet.count(7), 3);
        check.due("count(9) after errors", quiet.count(9), 0);
        settingsAreUsed(check);
        check.end();
    }

    private static void settingsAreUsed(Check check) {
        SundialSpans court = Check.withReadings(100, 5);
        court.pass(120);
        check.due("low end with WIDEN 2", court.of(0, 0), 100000 + 220 - 5 - 4);
        court.set(SundialSpans.WIDEN, 10);
        check.due("low end with WIDEN 10", court.of(0, 0), 100000 + 220 - 5 - 20);
        check.due("high end with WIDEN 10", court.of(0, 1), 100000 + 220 + 5 + 20);
    }
}
