/** The boundary sentences of "Promise 7: of". */
final class Edges07OfTest {
    static Edges edges() {
        return new Edges("Promise 7: of")
            .at("`what`: 0, 1 the low, high end of its span and 100000", Edges07OfTest::lowestAndHighestEnd)
            .at("(NONE without a span)", Edges07OfTest::noSpan)
            .at("2 its age", Edges07OfTest::ages)
            .at("(NONE without a reading)", Edges07OfTest::noReading)
            .at("3 its doubt", Edges07OfTest::doubts)
            .at("4 lies so far, 5 lies in a row", Edges07OfTest::lies)
            .at("6 whether it is struck (1 or 0)", Edges07OfTest::whetherStruck)
            .at("NO_SUCH if there is no such dial", Edges07OfTest::noSuchDial)
            .at("BAD_VALUE if what is out of range.", Edges07OfTest::outOfRange);
    }

    public static void main(String[] args) {
        edges().run();
    }

    private static void lowestAndHighestEnd(Check check) {
        SundialSpans court = Check.withReadings(0, 300, 0, 0);
        check.due("an end below 0 is no error", court.of(0, 0), 99700);
        check.due("the other end", court.of(0, 1), 100300);
        check.due("a span of one minute, its low end", court.of(1, 0), 100000);
        check.due("a span of one minute, its high end", court.of(1, 1), 100000);
        court.set(SundialSpans.WIDEN, 60);
        court.read(0, 9999, 300);
        Make.passTo(court, 99999);
        check.due("the highest end", court.of(0, 1), 310258);
    }

    private static void noSpan(Check check) {
        SundialSpans court = Make.liar(3, 3);
        check.due("low end of a struck one", court.of(2, 0), Check.NONE);
        check.due("high end of a struck one", court.of(2, 1), Check.NONE);
        court.dial();
        check.due("low end without a reading", court.of(3, 0), Check.NONE);
        check.due("high end without a reading", court.of(3, 1), Check.NONE);
    }

    private static void ages(Check check) {
        SundialSpans court = Check.withReadings(600, 0);
        check.due("just read", court.of(0, 2), 0);
        court.pass(1);
        check.due("a minute later", court.of(0, 2), 1);
        Make.passTo(court, 99999);
        check.due("at the end of time", court.of(0, 2), 99999);
        SundialSpans struck = Make.liar(1, 1);
        struck.pass(9);
        check.due("of a struck one, which has its reading still", struck.of(2, 2), 9);
    }

    private static void noReading(Check check) {
        SundialSpans court = Make.dials(15);
        court.pass(5);
        for (int dial = 0; dial < 15; dial++) {
            check.due("age of dial " + dial, court.of(dial, 2), Check.NONE);
            check.due("doubt of dial " + dial, court.of(dial, 3), Check.NONE);
        }
    }

    private static void doubts(Check check) {
        SundialSpans court = Check.withReadings(600, 0, 600, 300);
        check.due("the least one", court.of(0, 3), 0);
        check.due("the greatest one", court.of(1, 3), 300);
        court.pass(1440);
        check.due("it does not widen", court.of(1, 3), 300);
        check.due("of a struck one, which has its reading still", Make.liar(1, 1).of(2, 3), 0);
    }

    private static void lies(Check check) {
        SundialSpans court = Make.liar(0, 20);
        check.due("so far, at first", court.of(2, 4), 0);
        check.due("in a row, at first", court.of(2, 5), 0);
        Make.agree(court, 19);
        court.read(2, 600, 0);
        court.agree();
        check.due("so far, after 19 and an honest time", court.of(2, 4), 19);
        check.due("in a row, after 19 and an honest time", court.of(2, 5), 0);
        court.read(2, 700, 0);
        Make.agree(court, 20);
        check.due("so far, when it is struck", court.of(2, 4), 39);
        check.due("in a row, when it is struck", court.of(2, 5), 20);
    }

    private static void whetherStruck(Check check) {
        SundialSpans court = Make.liar(2, 3);
        check.due("after 2 of 3", court.of(2, 6), 0);
        court.agree();
        check.due("after 3 of 3", court.of(2, 6), 1);
        check.due("an honest one", court.of(0, 6), 0);
        court.dial();
        check.due("one without a reading", court.of(3, 6), 0);
    }

    private static void noSuchDial(Check check) {
        for (int what = -1; what <= 7; what++) {
            check.due("of(0, " + what + ") without dials", new SundialSpans().of(0, what), Check.NO_SUCH);
        }
        SundialSpans court = Make.dials(15);
        for (int dial : new int[] {-1, 15, 16, 31, 32, Make.LEAST, Make.MOST}) {
            check.due("of(" + dial + ", 4)", court.of(dial, 4), Check.NO_SUCH);
        }
        check.due("of(14, 4)", court.of(14, 4), 0);
    }

    private static void outOfRange(Check check) {
        SundialSpans court = Check.withReadings(600, 5);
        court.dial();
        for (int what : new int[] {-1, 7, Make.LEAST, Make.MOST}) {
            check.due("of(0, " + what + ")", court.of(0, what), Check.BAD_VALUE);
            check.due("of(1, " + what + ") without a reading", court.of(1, what), Check.BAD_VALUE);
        }
    }
}
