/** The boundary sentences of "Promise 3: dial". */
final class Edges03DialTest {
    static Edges edges() {
        return new Edges("Promise 3: dial")
            .at("A dial comes.", Edges03DialTest::comesWithoutAnything)
            .at("This is a change.", Edges03DialTest::isAChange)
            .at("Returns its number", Edges03DialTest::firstAndLastNumber)
            .at("TOO_MANY if there are 15 dials.", Edges03DialTest::tooMany);
    }

    public static void main(String[] args) {
        edges().run();
    }

    private static void comesWithoutAnything(Check check) {
        SundialSpans court = new SundialSpans();
        court.dial();
        int[] due = {Check.NONE, Check.NONE, Check.NONE, Check.NONE, 0, 0, 0};
        for (int what = 0; what < due.length; what++) {
            check.due("of(0, " + what + ")", court.of(0, what), due[what]);
        }
        court.read(0, 600, 5);
        court.undo();
        court.undo();
        court.dial();
        check.due("one that comes again has no reading", court.of(0, 3), Check.NONE);
    }

    private static void isAChange(Check check) {
        SundialSpans court = new SundialSpans();
        court.dial();
        check.due("it is recorded", court.count(9), 1);
        check.due("undo()", court.undo(), 0);
        check.due("dials then", court.count(1), 0);
        check.due("of(0, 4)", court.of(0, 4), Check.NO_SUCH);
        SundialSpans full = Make.dials(15);
        full.dial();
        full.undo();
        check.due("a refused one is not", full.count(1), 14);
    }

    private static void firstAndLastNumber(Check check) {
        check.due("the first one", new SundialSpans().dial(), 0);
        check.due("the last one", Make.dials(14).dial(), 14);
    }

    private static void tooMany(Check check) {
        SundialSpans court = Make.dials(15);
        check.due("a 16th one", court.dial(), Check.TOO_MANY);
        check.due("once more", court.dial(), Check.TOO_MANY);
        check.due("dials", court.count(1), 15);
        court.undo();
        check.due("a 15th one, after undo()", court.dial(), 14);
        SundialSpans struck = Make.crowd(14, 600, 0);
        struck.read(struck.dial(), 900, 0);
        struck.set(SundialSpans.OFTEN, 1);
        struck.agree();
        check.due("a dial that is struck still counts", struck.dial(), Check.TOO_MANY);
    }
}
