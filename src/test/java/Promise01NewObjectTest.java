/** Promise 1: a new object is a court without dials. */
final class Promise01NewObjectTest {
    public static void main(String[] args) {
        Check check = new Check("new object");
        SundialSpans court = new SundialSpans();
        int[] numbers = {0, 0, 0, 0, 0, Check.NONE, 2, 3, 0, 0};
        for (int what = 0; what < numbers.length; what++) {
            check.due("count(" + what + ")", court.count(what), numbers[what]);
        }
        check.due("of(0, 0)", court.of(0, 0), Check.NO_SUCH);
        check.due("best(0)", court.best(0), Check.NONE);
        check.due("end(0, 0)", court.end(0, 0), Check.NO_SUCH);
        check.due("undo()", court.undo(), Check.NOT_POSSIBLE);
        check.due("restore(0)", court.restore(0), Check.NOT_POSSIBLE);
        check.due("restore(1)", court.restore(1), Check.NOT_POSSIBLE);

        SundialSpans other = new SundialSpans();
        court.dial();
        court.put(Check.packed("d"));
        court.save(0);
        check.due("count(1) of another object", other.count(1), 0);
        check.due("count(8) of another object", other.count(8), 0);
        check.due("count(9) of another object", other.count(9), 0);
        check.due("restore(0) of another object", other.restore(0), Check.NOT_POSSIBLE);
        check.end();
    }
}
