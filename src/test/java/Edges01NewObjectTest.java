/** The boundary sentence of "Promise 1: A new object". */
final class Edges01NewObjectTest {
    static Edges edges() {
        return new Edges("Promise 1: A new object")
            .at("`SundialSpans()`: Creates a court without dials.", Edges01NewObjectTest::numbers)
            .at("`SundialSpans()`: Creates a court without dials.", Edges01NewObjectTest::answersWithoutDials)
            .at("`SundialSpans()`: Creates a court without dials.", Edges01NewObjectTest::nothingToTakeBack);
    }

    public static void main(String[] args) {
        edges().run();
    }

    private static void numbers(Check check) {
        SundialSpans court = new SundialSpans();
        int[] due = {0, 0, 0, 0, 0, Check.NONE, 2, 3, 0, 0};
        for (int what = 0; what < due.length; what++) {
            check.due("count(" + what + ")", court.count(what), due[what]);
        }
    }

    private static void answersWithoutDials(Check check) {
        SundialSpans court = new SundialSpans();
        check.due("read(0, 0, 0)", court.read(0, 0, 0), Check.NO_SUCH);
        check.due("agree()", court.agree(), Check.NOT_POSSIBLE);
        check.due("of(0, 0)", court.of(0, 0), Check.NO_SUCH);
        check.due("best(0)", court.best(0), Check.NONE);
        check.due("end(0, 0)", court.end(0, 0), Check.NO_SUCH);
        check.due("overlap(0)", court.overlap(0), 0);
        check.due("mean()", court.mean(), 0);
        check.due("share()", court.share(), 0);
        check.due("allowing(14, 0)", court.allowing(14, 0), Check.NONE);
        check.due("fewest()", court.fewest(), Check.NONE);
        check.due("widerIn(1)", court.widerIn(1), Check.NONE);
        check.due("without(0)", court.without(0), Check.NO_SUCH);
        check.due("save(0)", court.save(0), 0);
    }

    private static void nothingToTakeBack(Check check) {
        SundialSpans court = new SundialSpans();
        check.due("wipe()", court.wipe(), 0);
        check.due("fault()", court.fault(), 0);
        check.due("carryOut()", court.carryOut(), Check.BAD_TEXT);
        check.due("undo()", court.undo(), Check.NOT_POSSIBLE);
        check.due("restore(0)", court.restore(0), Check.NOT_POSSIBLE);
        check.due("restore(1)", court.restore(1), Check.NOT_POSSIBLE);
    }
}
