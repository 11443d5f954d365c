/** The boundary sentences of "Promise 8: best". */
final class Edges08BestTest {
    static Edges edges() {
        return new Edges("Promise 8: best")
            .at("`what`: 0 how many spans", Edges08BestTest::howMany)
            .at("1 its low end and 100000", Edges08BestTest::lowEnds)
            .at("2 its high end and 100000", Edges08BestTest::highEnds)
            .at("3 the hour and 100000", Edges08BestTest::hours)
            .at("4 the dials in whose spans the hour lies, as a set", Edges08BestTest::sets)
            .at("BAD_VALUE if what is out of range", Edges08BestTest::outOfRange)
            .at("NONE if there is no span.", Edges08BestTest::noSpan);
    }

    public static void main(String[] args) {
        edges().run();
    }

    private static void howMany(Check check) {
        check.due("of one", Check.withReadings(600, 5).best(0), 1);
        check.due("of 15 that are apart", Make.lonely().best(0), 1);
        check.due("of 15 at one time", Make.crowd(15, 600, 0).best(0), 15);
    }

    private static void lowEnds(Check check) {
        check.due("below 0", Check.withReadings(0, 300).best(1), 99700);
        check.due("at 0", Check.withReadings(0, 0).best(1), 100000);
        check.due("the later one of two low ends", Check.withReadings(600, 5, 605, 5).best(1), 100600);
        check.due("the first one of two that are apart", Check.withReadings(700, 0, 600, 0).best(1), 100600);
    }

    private static void highEnds(Check check) {
        check.due("of one minute", Check.withReadings(9999, 0).best(2), 109999);
        check.due("the sooner one of two high ends", Check.withReadings(600, 5, 605, 5).best(2), 100605);
        check.due("others go on in the next minute", Check.withReadings(5, 0, 6, 0, 7, 0).best(2), 100007);
        check.due("a minute is left out", Check.withReadings(5, 0, 7, 0).best(2), 100005);
        SundialSpans old = Check.withReadings(9999, 300);
        old.set(SundialSpans.WIDEN, 60);
        Make.passTo(old, 99999);
        check.due("the highest of all", old.best(2), 310258);
    }

    private static void hours(Check check) {
        check.due("of one minute", Check.withReadings(0, 0).best(3), 100000);
        check.due("between two minutes", Check.withReadings(5, 0, 6, 0).best(3), 100005);
        check.due("of -299 to 300", Check.withReadings(0, 300, 1, 300).best(3), 100000);
    }

    private static void sets(Check check) {
        check.due("all 15", Make.crowd(15, 600, 0).best(4), 32767);
        check.due("the last one alone", lastOneAlone().best(4), 16384);
        // From 5 to 7 one span each: at the hour, 6, it is dial 2, though the overlap begins with dial 1.
        check.due("not those that are elsewhere in it", Check.withReadings(7, 0, 5, 0, 6, 0).best(4), 4);
        // 5 to 6: dial 0 alone has the hour, 5.
        check.due("not the one that begins a minute after", Check.withReadings(5, 0, 6, 0).best(4), 1);
    }

    private static SundialSpans lastOneAlone() {
        SundialSpans court = Make.dials(15);
        court.read(14, 600, 0);
        return court;
    }

    private static void outOfRange(Check check) {
        for (int what : new int[] {-1, 5, Make.LEAST, Make.MOST}) {
            check.due("best(" + what + ")", Check.withReadings(600, 5).best(what), Check.BAD_VALUE);
            check.due("best(" + what + ") without a span", new SundialSpans().best(what), Check.BAD_VALUE);
        }
    }

    private static void noSpan(Check check) {
        SundialSpans court = Make.dials(15);
        for (int what = 0; what < 5; what++) {
            check.due("best(" + what + ") without dials", new SundialSpans().best(what), Check.NONE);
            check.due("best(" + what + ") without readings", court.best(what), Check.NONE);
        }
        court.read(0, 0, 0);
        check.due("best(0) with one", court.best(0), 1);
        court.undo();
        check.due("best(0) without it again", court.best(0), Check.NONE);
    }
}
