/** Promise 10: overlap. */
final class Promise10OverlapTest {
    public static void main(String[] args) {
        Check check = new Check("overlap");
        SundialSpans empty = new SundialSpans();
        check.due("overlap(0) without spans", empty.overlap(0), 0);
        check.due("overlap(-99999)", empty.overlap(-99999), 0);
        check.due("overlap(299999)", empty.overlap(299999), 0);

        SundialSpans court = Check.withReadings(10, 5, 15, 0, 20, 5, 0, 300);
        court.dial();
        int[][] wanted = {
            {-301, 0}, {-300, 1}, {4, 1}, {5, 2}, {14, 2}, {15, 4}, {16, 2}, {25, 2}, {26, 1}, {300, 1}, {301, 0}};
        for (int[] pair : wanted) {
            check.due("overlap(" + pair[0] + ")", court.overlap(pair[0]), pair[1]);
        }
        for (int time : new int[] {-100000, 300000, Integer.MAX_VALUE, Integer.MIN_VALUE}) {
            check.due("overlap(" + time + ")", court.overlap(time), Check.BAD_VALUE);
        }

        court.set(SundialSpans.OFTEN, 1);
        court.agree();
        check.due("none is struck where all agree", court.overlap(15), 4);
        court.read(0, 100, 0);
        court.agree();
        check.due("the struck one is left out", court.overlap(100), 1);
        check.end();
    }
}
