/** The boundary sentences of "Promise 17: without". */
final class Edges17WithoutTest {
    static Edges edges() {
        return new Edges("Promise 17: without")
            .at("Returns the hour that would be told without a dial.", Edges17WithoutTest::leftOut)
            .at("Returns the hour and 100000", Edges17WithoutTest::hours)
            .at("NO_SUCH if there is no such dial", Edges17WithoutTest::noSuchDial)
            .at("NONE if there is no other span.", Edges17WithoutTest::noOtherSpan);
    }

    public static void main(String[] args) {
        edges().run();
    }

    private static void leftOut(Check check) {
        SundialSpans court = Check.withReadings(600, 5, 604, 3, 700, 0);
        check.due("without the first one", court.without(0), 100604);
        check.due("without the second one", court.without(1), 100600);
        check.due("without the one that lies", court.without(2), 100603);
        court.dial();
        check.due("without one that has no reading", court.without(3), 100603);
        check.due("without a struck one", Make.liar(1, 1).without(2), 100600);
        SundialSpans all = Make.crowd(15, 600, 5);
        all.read(14, 598, 2);
        check.due("without the last of 15", all.without(14), 100600);
        check.due("without another one of 15", all.without(13), 100598);
    }

    private static void hours(Check check) {
        check.due("the least one", Check.withReadings(600, 0, 0, 0).without(0), 100000);
        check.due("of -299 to 300", Check.withReadings(600, 0, 0, 300, 1, 300).without(0), 100000);
        SundialSpans old = Check.withReadings(9999, 300, 0, 0);
        Make.passTo(old, 99999);
        check.due("the greatest one", old.without(1), 209998);
    }

    private static void noSuchDial(Check check) {
        check.due("without(0) without dials", new SundialSpans().without(0), Check.NO_SUCH);
        SundialSpans court = Make.crowd(15, 600, 5);
        for (int dial : new int[] {-1, 15, 16, 31, 32, Make.LEAST, Make.MOST}) {
            check.due("without(" + dial + ")", court.without(dial), Check.NO_SUCH);
            check.due("without(" + dial + ") without a span", Make.dials(15).without(dial), Check.NO_SUCH);
        }
        check.due("without(14)", court.without(14), 100600);
    }

    private static void noOtherSpan(Check check) {
        SundialSpans court = Make.dials(15);
        check.due("no span at all", court.without(0), Check.NONE);
        court.read(7, 600, 5);
        check.due("none but its own", court.without(7), Check.NONE);
        check.due("another one has it", court.without(8), 100600);
        SundialSpans two = Check.withReadings(600, 5, 600, 5);
        check.due("one more", two.without(0), 100600);
        SundialSpans struck = Check.withReadings(600, 0, 700, 0);
        struck.set(SundialSpans.OFTEN, 1);
        struck.agree();
        check.due("the other one is struck", struck.without(0), Check.NONE);
    }
}
