/** Promise 3: dial. */
final class Promise03DialTest {
    public static void main(String[] args) {
        Check check = new Check("dial");
        SundialSpans court = new SundialSpans();
        for (int dial = 0; dial < 15; dial++) {
            check.due("dial() " + dial, court.dial(), dial);
            check.due("dials then", court.count(1), dial + 1);
            check.due("changes then", court.count(9), Math.min(6, dial + 1));
        }
        check.due("a 16th dial()", court.dial(), Check.TOO_MANY);
        check.due("dials then", court.count(1), 15);
        check.due("undo() after the error", court.undo(), 5);
        check.due("dials after undo()", court.count(1), 14);
        check.due("dial() again", court.dial(), 14);
        int[] fresh = {Check.NONE, Check.NONE, Check.NONE, Check.NONE, 0, 0, 0};
        for (int what = 0; what < fresh.length; what++) {
            check.due("of(14, " + what + ")", court.of(14, what), fresh[what]);
        }
        check.end();
    }
}
