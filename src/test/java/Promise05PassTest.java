/** Promise 5: pass. */
final class Promise05PassTest {
    public static void main(String[] args) {
        Check check = new Check("pass");
        SundialSpans court = new SundialSpans();
        for (int minutes : new int[] {0, -1, 1441, Integer.MAX_VALUE, Integer.MIN_VALUE}) {
            check.due("pass(" + minutes + ")", court.pass(minutes), Check.BAD_VALUE);
        }
        check.due("changes after errors", court.count(9), 0);
        check.due("pass(1)", court.pass(1), 1);
        check.due("pass(1440)", court.pass(1440), 1441);
        check.due("count(0)", court.count(0), 1441);
        check.due("count(9)", court.count(9), 2);

        SundialSpans late = new SundialSpans();
        for (int day = 1; day <= 69; day++) {
            check.due("pass(1440) on day " + day, late.pass(1440), day * 1440);
        }
        check.due("pass(640) to 100000", late.pass(640), Check.NOT_POSSIBLE);
        check.due("pass(1441) is out of range first", late.pass(1441), Check.BAD_VALUE);
        check.due("pass(639) to 99999", late.pass(639), 99999);
        check.due("pass(1) from there", late.pass(1), Check.NOT_POSSIBLE);
        check.due("time of now", late.count(0), 99999);
        check.due("undo()", late.undo(), 5);
        check.due("time of now after undo()", late.count(0), 99360);
        check.end();
    }
}
