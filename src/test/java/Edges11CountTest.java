/** The boundary sentences of "Promise 11: count". */
final class Edges11CountTest {
    static Edges edges() {
        return new Edges("Promise 11: count")
            .at("`what`: 0 the time of now", Edges11CountTest::now)
            .at("1 dials", Edges11CountTest::dials)
            .at("2 dials with spans, as a set", Edges11CountTest::withSpans)
            .at("3 struck ones, as a set", Edges11CountTest::struckOnes)
            .at("4 how often they agreed so far", Edges11CountTest::howOften)
            .at("5 the hour of the latest time that they agreed and 100000", Edges11CountTest::latestHour)
            .at("(NONE, if they never did)", Edges11CountTest::neverAgreed)
            .at("6, 7 the settings", Edges11CountTest::settings)
            .at("8 the length of the pad", Edges11CountTest::lengthOfPad)
            .at("9 how many changes can be undone", Edges11CountTest::changes)
            .at("BAD_VALUE if what is out of range.", Edges11CountTest::outOfRange);
    }

    public static void main(String[] args) {
        edges().run();
    }

    private static void now(Check check) {
        SundialSpans court = new SundialSpans();
        check.due("at first", court.count(0), 0);
        Make.passTo(court, 99999);
        check.due("at last", court.count(0), 99999);
    }

    private static void dials(Check check) {
        check.due("none", new SundialSpans().count(1), 0);
        check.due("15", Make.dials(15).count(1), 15);
        check.due("with a struck one", Make.liar(1, 1).count(1), 3);
    }

    private static void withSpans(Check check) {
        check.due("no dials", new SundialSpans().count(2), 0);
        check.due("no readings", Make.dials(15).count(2), 0);
        check.due("all", Make.crowd(15, 600, 0).count(2), 32767);
        check.due("without a struck one", Make.liar(1, 1).count(2), 3);
    }

    private static void struckOnes(Check check) {
        check.due("none", Make.crowd(15, 600, 0).count(3), 0);
        check.due("one, a lie too few", Make.liar(2, 3).count(3), 0);
        check.due("one", Make.liar(3, 3).count(3), 4);
        SundialSpans lonely = Make.lonely();
        lonely.set(SundialSpans.OFTEN, 1);
        lonely.agree();
        check.due("14 of 15", lonely.count(3), 32766);
    }

    private static void howOften(Check check) {
        SundialSpans court = Make.dials(1);
        court.agree();
        check.due("a refused one does not count", court.count(4), 0);
        court.read(0, 600, 5);
        Make.agree(court, 300);
        check.due("300 times", court.count(4), 300);
        court.undo();
        check.due("after undo()", court.count(4), 299);
    }

    private static void latestHour(Check check) {
        SundialSpans court = Check.withReadings(0, 0);
        court.agree();
        check.due("the hour 0", court.count(5), 100000);
        court.read(0, 9999, 0);
        check.due("it stays until they agree again", court.count(5), 100000);
        court.agree();
        check.due("the latest one", court.count(5), 109999);
    }

    private static void neverAgreed(Check check) {
        check.due("at first", new SundialSpans().count(5), Check.NONE);
        SundialSpans court = Make.dials(1);
        court.agree();
        check.due("after a refused one", court.count(5), Check.NONE);
        court.save(0);
        court.read(0, 600, 5);
        court.agree();
        court.undo();
        check.due("after undo()", court.count(5), Check.NONE);
        court.agree();
        court.restore(0);
        check.due("after restore()", court.count(5), Check.NONE);
        SundialSpans at0 = Check.withReadings(0, 0);
        at0.agree();
        check.due("an hour of 0 is not NONE", at0.count(5), 100000);
    }

    private static void settings(Check check) {
        SundialSpans court = new SundialSpans();
        court.set(0, 0);
        court.set(1, 1);
        check.due("WIDEN at its least", court.count(6), 0);
        check.due("OFTEN at its least", court.count(7), 1);
        court.set(0, 60);
        court.set(1, 20);
        check.due("WIDEN at its greatest", court.count(6), 60);
        check.due("OFTEN at its greatest", court.count(7), 20);
    }

    private static void lengthOfPad(Check check) {
        check.due("empty", new SundialSpans().count(8), 0);
        SundialSpans court = Make.withFullPad();
        check.due("full", court.count(8), 80);
        court.put('d');
        check.due("full, after a refused one", court.count(8), 80);
        court.carryOut();
        check.due("empty again", court.count(8), 0);
    }

    private static void changes(Check check) {
        SundialSpans court = new SundialSpans();
        check.due("none", court.count(9), 0);
        for (int change = 1; change <= 20; change++) {
            court.pass(1);
            check.due("after change " + change, court.count(9), Math.min(change, 6));
        }
        court.undo();
        check.due("after undo()", court.count(9), 5);
    }

    private static void outOfRange(Check check) {
        for (int what : new int[] {-1, 10, Make.LEAST, Make.MOST}) {
            check.due("count(" + what + ")", Make.liar(1, 1).count(what), Check.BAD_VALUE);
            check.due("count(" + what + ") without dials", new SundialSpans().count(what), Check.BAD_VALUE);
        }
    }
}
