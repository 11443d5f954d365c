/** The boundary sentences of "Promise 6: agree". */
final class Edges06AgreeTest {
    static Edges edges() {
        return new Edges("Promise 6: agree")
            .at("The dials agree.", Edges06AgreeTest::oneDialAgrees)
            .at("This is a change.", Edges06AgreeTest::isAChange)
            .at("Returns the hour and 100000", Edges06AgreeTest::hours)
            .at("NOT_POSSIBLE if there is no span.", Edges06AgreeTest::noSpan);
    }

    public static void main(String[] args) {
        edges().run();
    }

    private static void oneDialAgrees(Check check) {
        SundialSpans court = Check.withReadings(600, 5);
        court.set(SundialSpans.OFTEN, 1);
        Make.agree(court, 5);
        check.due("one dial never lies", court.of(0, 4), 0);
        check.due("how often they agreed", court.count(4), 5);
        SundialSpans lonely = Make.lonely();
        lonely.set(SundialSpans.OFTEN, 1);
        lonely.agree();
        check.due("of 15 that are apart the first one is honest", lonely.count(3), 32766);
        check.due("the first one has a span", lonely.count(2), 1);
        SundialSpans all = Make.crowd(15, 600, 0);
        all.set(SundialSpans.OFTEN, 1);
        all.agree();
        check.due("of 15 at one time none lies", all.count(3), 0);
    }

    private static void isAChange(Check check) {
        SundialSpans court = Make.liar(2, 3);
        court.agree();
        check.due("undo()", court.undo(), 5);
        check.due("how often they agreed", court.count(4), 2);
        check.due("the liar is not struck", court.count(3), 0);
        check.due("its lies", court.of(2, 4), 2);
        SundialSpans once = Check.withReadings(600, 5);
        once.agree();
        once.undo();
        check.due("they never agreed, after undo()", once.count(5), Check.NONE);
        SundialSpans none = Make.dials(1);
        none.agree();
        check.due("a refused one is no change", none.count(9), 1);
    }

    private static void hours(Check check) {
        check.due("the least hour", Check.withReadings(0, 0).agree(), 100000);
        check.due("the hour of 9999", Check.withReadings(9999, 0).agree(), 109999);
        check.due("the hour of 0 with the greatest doubt", Check.withReadings(0, 300).agree(), 100000);
        SundialSpans old = Check.withReadings(9999, 300);
        Make.passTo(old, 99999);
        check.due("the greatest hour", old.agree(), 209998);
        check.due("as count(5) tells", old.count(5), 209998);
    }

    private static void noSpan(Check check) {
        check.due("without dials", new SundialSpans().agree(), Check.NOT_POSSIBLE);
        SundialSpans court = Make.dials(15);
        check.due("without readings", court.agree(), Check.NOT_POSSIBLE);
        check.due("how often they agreed", court.count(4), 0);
        check.due("when", court.count(5), Check.NONE);
        court.read(7, 0, 0);
        check.due("with one", court.agree(), 100000);
        court.undo();
        court.undo();
        check.due("without one again", court.agree(), Check.NOT_POSSIBLE);
    }
}
