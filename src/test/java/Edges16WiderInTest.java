/** The boundary sentences of "Promise 16: widerIn". */
final class Edges16WiderInTest {
    static Edges edges() {
        return new Edges("Promise 16: widerIn")
            .at("Tells in how many whole hours (60 minutes)", Edges16WiderInTest::wholeHours)
            .at("the best overlap has at least so many spans", Edges16WiderInTest::atLeastSoMany)
            .at(", if nothing else is done.", Edges16WiderInTest::nothingElse)
            .at("`many`: 1 to 15", Edges16WiderInTest::oneAnd15)
            .at("Returns the hours (0 if it has)", Edges16WiderInTest::itHas)
            .at("BAD_VALUE if many is out of range", Edges16WiderInTest::outOfRange)
            .at("NONE if it has not within 200.", Edges16WiderInTest::within200);
    }

    public static void main(String[] args) {
        edges().run();
    }

    /** Two dials that tell times so far apart, with so much widening at each end. */
    private static SundialSpans apart(int minutes, int widen) {
        SundialSpans court = Check.withReadings(1000, 0, 1000 + minutes, 0);
        court.set(SundialSpans.WIDEN, widen);
        return court;
    }

    private static void wholeHours(Check check) {
        SundialSpans court = apart(4, 2);
        check.due("at ages of 0", court.widerIn(2), 1);
        court.pass(59);
        check.due("a minute ahead of the hour it is one still", court.widerIn(2), 1);
        court.pass(1);
        check.due("a minute later", court.widerIn(2), 0);
        SundialSpans late = Make.dials(2);
        late.pass(30);
        late.read(0, 1000, 0);
        late.read(1, 1004, 0);
        late.pass(60);
        check.due("hours are those of the readings, not of the day", late.widerIn(2), 0);
        check.due("a gap that one hour closes to the minute", apart(120, 60).widerIn(2), 1);
        check.due("a gap that is a minute wider", apart(121, 60).widerIn(2), 2);
    }

    private static void atLeastSoMany(Check check) {
        SundialSpans lonely = Make.lonely();
        // The first and the last are 42 minutes apart, and come 4 minutes nearer in an hour.
        check.due("15 of them", lonely.widerIn(15), 11);
        check.due("2 of them", lonely.widerIn(2), 1);
        check.due("3 of them", lonely.widerIn(3), 2);
        SundialSpans jump = Check.withReadings(100, 0, 110, 0, 110, 0, 110, 0);
        check.due("3 there are, so 2 there are", jump.widerIn(2), 0);
        check.due("more spans than there are", jump.widerIn(5), Check.NONE);
    }

    private static void nothingElse(Check check) {
        SundialSpans court = Make.liar(2, 3);
        court.read(2, 602, 0);
        check.due("dials do not agree meanwhile, so none is struck", court.widerIn(3), 1);
        check.due("no time passes", court.count(0), 0);
        court.set(SundialSpans.WIDEN, 0);
        check.due("nor does WIDEN change", court.widerIn(3), Check.NONE);
        SundialSpans struck = Make.liar(1, 1);
        check.due("a struck one comes back in no time", struck.widerIn(3), Check.NONE);
    }

    private static void oneAnd15(Check check) {
        SundialSpans court = Make.crowd(15, 600, 0);
        check.due("0", court.widerIn(0), Check.BAD_VALUE);
        check.due("16", court.widerIn(16), Check.BAD_VALUE);
        check.due("1", court.widerIn(1), 0);
        check.due("15", court.widerIn(15), 0);
    }

    private static void itHas(Check check) {
        check.due("spans that touch", apart(0, 0).widerIn(2), 0);
        check.due("one span", Check.withReadings(600, 5).widerIn(1), 0);
        check.due("spans that do not", apart(1, 1).widerIn(2), 1);
    }

    private static void outOfRange(Check check) {
        for (int many : new int[] {0, -1, 16, Make.LEAST, Make.MOST}) {
            check.due("widerIn(" + many + ")", apart(0, 0).widerIn(many), Check.BAD_VALUE);
            check.due("widerIn(" + many + ") without a span", new SundialSpans().widerIn(many), Check.BAD_VALUE);
        }
    }

    private static void within200(Check check) {
        check.due("in 199", apart(398, 1).widerIn(2), 199);
        check.due("in 200", apart(400, 1).widerIn(2), 200);
        check.due("in 201", apart(401, 1).widerIn(2), Check.NONE);
        check.due("in 4000", apart(8000, 1).widerIn(2), Check.NONE);
        check.due("never, with WIDEN 0", apart(1, 0).widerIn(2), Check.NONE);
        check.due("without a span", Make.dials(15).widerIn(1), Check.NONE);
        check.due("more spans than there are", apart(0, 1).widerIn(3), Check.NONE);
    }
}
