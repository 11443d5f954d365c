/** Promise 4: read. */
final class Promise04ReadTest {
    public static void main(String[] args) {
        Check check = new Check("read");
        SundialSpans court = new SundialSpans();
        check.due("read(0, 0, 0) without dials", court.read(0, 0, 0), Check.NO_SUCH);
        court.dial();
        court.dial();
        check.due("read(1, 9999, 300)", court.read(1, 9999, 300), Check.NONE);
        check.due("low end", court.of(1, 0), 100000 + 9999 - 300);
        check.due("high end", court.of(1, 1), 100000 + 9999 + 300);
        check.due("read(1, 0, 0) at once", court.read(1, 0, 0), 0);
        court.pass(75);
        check.due("read(1, 50, 1) later", court.read(1, 50, 1), 75);
        check.due("its age", court.of(1, 2), 0);
        check.due("its low end", court.of(1, 0), 100049);
        check.due("its doubt", court.of(1, 3), 1);
        check.due("read() is a change: count(9)", court.count(9), 6);

        errors(check);
        struckDial(check);
        check.end();
    }

    private static void errors(Check check) {
        SundialSpans court = new SundialSpans();
        court.dial();
        int[][] wrong = {
            {0, -1, 0}, {0, 10000, 0}, {0, 0, -1}, {0, 0, 301}, {0, Integer.MAX_VALUE, 0}, {0, Integer.MIN_VALUE, 0},
            {0, 0, Integer.MAX_VALUE}, {0, 0, Integer.MIN_VALUE}};
        for (int[] call : wrong) {
            check.due("read(0, " + call[1] + ", " + call[2] + ")", court.read(0, call[1], call[2]), Check.BAD_VALUE);
        }
        for (int dial : new int[] {-1, 1, 15, 32, Integer.MAX_VALUE, Integer.MIN_VALUE}) {
            check.due("read(" + dial + ", 0, 0)", court.read(dial, 0, 0), Check.NO_SUCH);
            check.due("read(" + dial + ", -1, -1)", court.read(dial, -1, -1), Check.NO_SUCH);
        }
        check.due("spans after errors", court.count(2), 0);
        check.due("changes after errors", court.count(9), 1);
    }

    private static void struckDial(Check check) {
        SundialSpans court = Check.withReadings(100, 0, 100, 0, 500, 0);
        court.set(SundialSpans.OFTEN, 1);
        court.agree();
        check.due("struck ones", court.count(3), 4);
        check.due("read(2, 10000, 0) of a struck one", court.read(2, 10000, 0), Check.BAD_VALUE);
        check.due("read(2, 0, 301) of a struck one", court.read(2, 0, 301), Check.BAD_VALUE);
        check.due("read(2, 100, 0) of a struck one", court.read(2, 100, 0), Check.NOT_POSSIBLE);
        check.due("its doubt is as before", court.of(2, 3), 0);
    }
}
