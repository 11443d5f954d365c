/** The boundary sentences of "Promise 5: pass". */
final class Edges05PassTest {
    static Edges edges() {
        return new Edges("Promise 5: pass")
            .at("Minutes pass.", Edges05PassTest::minutesPass)
            .at("This is a change.", Edges05PassTest::isAChange)
            .at("`minutes`: 1 to 1440", Edges05PassTest::fewestAndMost)
            .at("Returns the time of now then", Edges05PassTest::timeOfNow)
            .at("BAD_VALUE if minutes is out of range", Edges05PassTest::outOfRange)
            .at("NOT_POSSIBLE if it would be above 99999.", Edges05PassTest::above99999);
    }

    public static void main(String[] args) {
        edges().run();
    }

    private static SundialSpans at(int now) {
        SundialSpans court = new SundialSpans();
        Make.passTo(court, now);
        return court;
    }

    private static void minutesPass(Check check) {
        SundialSpans court = Check.withReadings(600, 0);
        court.pass(59);
        check.due("a span 59 minutes later", court.of(0, 0), 100659);
        court.pass(1);
        check.due("a span 60 minutes later", court.of(0, 0), 100658);
        check.due("its age", court.of(0, 2), 60);
    }

    private static void isAChange(Check check) {
        SundialSpans court = new SundialSpans();
        court.pass(1);
        check.due("it is recorded", court.count(9), 1);
        court.pass(0);
        court.pass(1441);
        check.due("a refused one is not", court.count(9), 1);
        court.undo();
        check.due("time of now after undo()", court.count(0), 0);
        SundialSpans late = at(99999);
        late.undo();
        int left = late.count(9);
        late.pass(1440);
        check.due("nor is one that is not possible", late.count(9), left);
    }

    private static void fewestAndMost(Check check) {
        SundialSpans court = new SundialSpans();
        check.due("0", court.pass(0), Check.BAD_VALUE);
        check.due("1441", court.pass(1441), Check.BAD_VALUE);
        check.due("1", court.pass(1), 1);
        check.due("1440", court.pass(1440), 1441);
    }

    private static void timeOfNow(Check check) {
        SundialSpans court = new SundialSpans();
        check.due("at first", court.pass(1440), 1440);
        check.due("a day later it does not begin again", court.pass(1440), 2880);
        check.due("as count(0) tells", court.count(0), 2880);
    }

    private static void outOfRange(Check check) {
        SundialSpans court = at(99999);
        for (int minutes : new int[] {0, -1, -99999, 1441, Make.LEAST, Make.MOST}) {
            check.due("pass(" + minutes + ") at first", new SundialSpans().pass(minutes), Check.BAD_VALUE);
            check.due("pass(" + minutes + ") at 99999", court.pass(minutes), Check.BAD_VALUE);
        }
        check.due("time of now", court.count(0), 99999);
    }

    private static void above99999(Check check) {
        SundialSpans court = at(98560);
        check.due("pass(1440) to 100000", court.pass(1440), Check.NOT_POSSIBLE);
        check.due("pass(1439) to 99999", court.pass(1439), 99999);
        check.due("pass(1) from there", court.pass(1), Check.NOT_POSSIBLE);
        check.due("pass(1440) from there", court.pass(1440), Check.NOT_POSSIBLE);
        check.due("time of now", court.count(0), 99999);
        check.due("pass(1) at 99998", at(99998).pass(1), 99999);
        check.due("pass(2) at 99998", at(99998).pass(2), Check.NOT_POSSIBLE);
    }
}
