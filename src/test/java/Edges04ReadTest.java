/** The boundary sentences of "Promise 4: read". */
final class Edges04ReadTest {
    static Edges edges() {
        return new Edges("Promise 4: read")
            .at("A dial is read now, in place of its reading ahead.", Edges04ReadTest::inPlaceOfTheOneAhead)
            .at("This is a change.", Edges04ReadTest::isAChange)
            .at("`time`: 0 to 9999, what it tells", Edges04ReadTest::times)
            .at("`doubt`: 0 to 300", Edges04ReadTest::doubts)
            .at("Returns its age that it had", Edges04ReadTest::ageThatItHad)
            .at("(NONE, if it had no reading)", Edges04ReadTest::noReading)
            .at("NO_SUCH if there is no such dial", Edges04ReadTest::noSuchDial)
            .at("BAD_VALUE if another argument is out of range", Edges04ReadTest::outOfRange)
            .at("NOT_POSSIBLE if it is struck.", Edges04ReadTest::struck);
    }

    public static void main(String[] args) {
        edges().run();
    }

    private static void inPlaceOfTheOneAhead(Check check) {
        SundialSpans court = Check.withReadings(9999, 300, 100, 1);
        court.pass(60);
        court.read(0, 0, 0);
        check.due("its low end", court.of(0, 0), 100000);
        check.due("its high end", court.of(0, 1), 100000);
        check.due("its age", court.of(0, 2), 0);
        check.due("its doubt", court.of(0, 3), 0);
        check.due("there is no end of the reading ahead", court.end(4, 0), Check.NO_SUCH);
        check.due("the other dial keeps its own", court.of(1, 0), 100157);
        SundialSpans late = Make.dials(1);
        Make.passTo(late, 99999);
        late.read(0, 9999, 300);
        check.due("a dial that is read at the end of time", late.of(0, 1), 110299);
    }

    private static void isAChange(Check check) {
        SundialSpans court = Check.withReadings(600, 5);
        court.read(0, 600, 5);
        check.due("the same reading is a change", court.count(9), 3);
        court.read(0, 10000, 5);
        court.read(1, 600, 5);
        check.due("a refused one is none", court.count(9), 3);
        court.undo();
        check.due("undo()", court.undo(), 1);
        check.due("it has no reading then", court.of(0, 2), Check.NONE);
    }

    private static void times(Check check) {
        SundialSpans court = Make.dials(1);
        check.due("-1", court.read(0, -1, 0), Check.BAD_VALUE);
        check.due("10000", court.read(0, 10000, 0), Check.BAD_VALUE);
        check.due("0", court.read(0, 0, 0), Check.NONE);
        check.due("its low end", court.of(0, 0), 100000);
        check.due("9999", court.read(0, 9999, 0), 0);
        check.due("its low end", court.of(0, 0), 109999);
    }

    private static void doubts(Check check) {
        SundialSpans court = Make.dials(1);
        check.due("-1", court.read(0, 500, -1), Check.BAD_VALUE);
        check.due("301", court.read(0, 500, 301), Check.BAD_VALUE);
        check.due("0", court.read(0, 500, 0), Check.NONE);
        check.due("its doubt", court.of(0, 3), 0);
        check.due("300", court.read(0, 500, 300), 0);
        check.due("its doubt", court.of(0, 3), 300);
    }

    private static void ageThatItHad(Check check) {
        SundialSpans court = Check.withReadings(600, 5);
        check.due("just read", court.read(0, 600, 5), 0);
        court.pass(1);
        check.due("a minute ago", court.read(0, 600, 5), 1);
        court.pass(1440);
        check.due("a day ago", court.read(0, 600, 5), 1440);
        SundialSpans old = Check.withReadings(600, 5);
        Make.passTo(old, 99999);
        check.due("at the first of all times", old.read(0, 600, 5), 99999);
        check.due("just read, at the last of all times", old.read(0, 600, 5), 0);
    }

    private static void noReading(Check check) {
        SundialSpans court = Make.dials(15);
        check.due("the first dial", court.read(0, 0, 0), Check.NONE);
        check.due("once more", court.read(0, 0, 0), 0);
        court.pass(77);
        check.due("the last dial", court.read(14, 0, 0), Check.NONE);
        court.undo();
        check.due("once more, after undo()", court.read(14, 0, 0), Check.NONE);
    }

    private static void noSuchDial(Check check) {
        check.due("read(0, 1, 1) without dials", new SundialSpans().read(0, 1, 1), Check.NO_SUCH);
        SundialSpans court = Make.dials(15);
        for (int dial : new int[] {-1, 15, 16, 31, 32, Make.LEAST, Make.MOST}) {
            check.due("read(" + dial + ", 1, 1)", court.read(dial, 1, 1), Check.NO_SUCH);
            check.due("read(" + dial + ", -1, -1)", court.read(dial, -1, -1), Check.NO_SUCH);
        }
        check.due("no dial is read by that", court.count(2), 0);
        check.due("the next one is not there yet", Make.dials(3).read(3, 1, 1), Check.NO_SUCH);
    }

    private static void outOfRange(Check check) {
        SundialSpans court = Check.withReadings(600, 5);
        for (int wrong : new int[] {-1, 10000, Make.LEAST, Make.MOST}) {
            check.due("read(0, " + wrong + ", 0)", court.read(0, wrong, 0), Check.BAD_VALUE);
            check.due("read(0, 0, " + wrong + ")", court.read(0, 0, wrong), Check.BAD_VALUE);
            check.due("read(0, " + wrong + ", " + wrong + ")", court.read(0, wrong, wrong), Check.BAD_VALUE);
        }
        SundialSpans struck = Make.liar(1, 1);
        check.due("of a struck one", struck.read(2, 10000, 0), Check.BAD_VALUE);
        check.due("the reading ahead stays", court.of(0, 0), 100595);
    }

    private static void struck(Check check) {
        SundialSpans court = Make.liar(2, 3);
        check.due("it is not struck yet", court.read(2, 700, 0), 0);
        court.agree();
        check.due("it is struck", court.read(2, 700, 9), Check.NOT_POSSIBLE);
        check.due("it keeps the doubt that it had", court.of(2, 3), 0);
        check.due("the others are read", court.read(1, 600, 0), 0);
        court.undo();
        court.undo();
        check.due("it is not struck, after undo()", court.read(2, 700, 0), 0);
    }
}
