/** The boundary sentences of "Overlaps". */
final class EdgesOfOverlapsTest {
    static Edges edges() {
        return new Edges("Overlaps")
            .at("Times are whole minutes.", EdgesOfOverlapsTest::wholeMinutes)
            .at("The overlap of a time is how many spans have it.", EdgesOfOverlapsTest::noneToAll)
            .at("The best overlap is the greatest one", EdgesOfOverlapsTest::greatestOne)
            .at("its low end is the least time that has it", EdgesOfOverlapsTest::leastTime)
            .at("its high end the greatest time up to which, from the low end on, all times have it.",
                EdgesOfOverlapsTest::greatestTime)
            .at("The hour is (low end and high end together) / 2.", EdgesOfOverlapsTest::hours)
            .at("To agree is to find the hour (there has to be a span)", EdgesOfOverlapsTest::thereHasToBeASpan)
            .at("each dial with a span in which the hour lies is honest", EdgesOfOverlapsTest::hourAtEnds)
            .at("its lies in a row are 0 then", EdgesOfOverlapsTest::rowEnds)
            .at("each other one with a span lies once more, so far and in a row.", EdgesOfOverlapsTest::otherOnes)
            .at("A dial that lied OFTEN times in a row then, or more, is struck then", EdgesOfOverlapsTest::oftenOrMore)
            .at("for ever", EdgesOfOverlapsTest::forEver)
            .at("(set() strikes none).", EdgesOfOverlapsTest::setStrikesNone);
    }

    public static void main(String[] args) {
        edges().run();
    }

    private static void bounds(Check check, int many, int low, int high, int... timesAndDoubts) {
        SundialSpans court = Check.withReadings(timesAndDoubts);
        check.due("how many overlap", court.best(0), many);
        check.due("low end", court.best(1), 100000 + low);
        check.due("high end", court.best(2), 100000 + high);
    }

    /** Nothing lies between 5 and 6. */
    private static void wholeMinutes(Check check) {
        bounds(check, 1, 5, 6, 5, 0, 6, 0);
        bounds(check, 1, 5, 5, 5, 0, 7, 0);
        bounds(check, 1, 5, 5, 5, 0);
    }

    private static void noneToAll(Check check) {
        check.due("without dials", new SundialSpans().overlap(0), 0);
        check.due("without readings", Make.dials(15).overlap(0), 0);
        SundialSpans all = Make.crowd(15, 600, 1);
        check.due("of 15", all.overlap(601), 15);
        check.due("beside them", all.overlap(602), 0);
        check.due("best(0) of 15", all.best(0), 15);
        SundialSpans lonely = Make.lonely();
        for (int dial = 0; dial < 15; dial++) {
            check.due("of one of 15", lonely.overlap(100 + 3 * dial), 1);
            check.due("beside it", lonely.overlap(101 + 3 * dial), 0);
        }
        check.due("best(0) of 15 that are apart", lonely.best(0), 1);
    }

    private static void greatestOne(Check check) {
        // Two overlap for long at a low time, three for one minute at a high time.
        bounds(check, 3, 900, 900, 100, 50, 100, 50, 895, 5, 905, 5, 900, 0);
        bounds(check, 1, -300, 300, 0, 300);
    }

    private static void leastTime(Check check) {
        // As many overlap at two places: the lower one is it, though shorter, and of dials that came later.
        bounds(check, 2, 100, 100, 500, 50, 500, 50, 100, 0, 100, 0);
        bounds(check, 2, 100, 100, 100, 0, 100, 0, 500, 50, 500, 50);
        bounds(check, 1, 100, 100, 105, 0, 103, 0, 100, 0);
        bounds(check, 2, -298, 300, 0, 300, 2, 300);
    }

    private static void greatestTime(Check check) {
        // A time that no span has lies between.
        bounds(check, 1, 1, 3, 2, 1, 6, 1);
        // Others go on in the minute after.
        bounds(check, 1, 1, 6, 2, 1, 5, 1);
        bounds(check, 1, 1, 9, 2, 1, 5, 1, 8, 1);
        bounds(check, 2, 0, 8, 4, 4, 2, 2, 7, 2);
        // As many once more, a minute after one time that has fewer.
        bounds(check, 2, 0, 4, 5, 5, 2, 2, 8, 2);
        // More overlap after it: then that is the best one.
        bounds(check, 2, 4, 4, 2, 2, 6, 2);
    }

    private static void hours(Check check) {
        check.due("hour of one minute", Check.withReadings(5, 0).best(3), 100005);
        check.due("hour of two minutes", Check.withReadings(5, 0, 6, 0).best(3), 100005);
        check.due("hour of three minutes", Check.withReadings(5, 0, 6, 0, 7, 0).best(3), 100006);
        check.due("hour of four minutes", Check.withReadings(5, 0, 6, 0, 7, 0, 8, 0).best(3), 100006);
        check.due("hour of -300 to 300", Check.withReadings(0, 300).best(3), 100000);
        check.due("hour of -299 to 300", Check.withReadings(0, 300, 1, 300).best(3), 100000);
        check.due("hour of -298 to 300", Check.withReadings(0, 300, 2, 300).best(3), 100001);
    }

    private static void thereHasToBeASpan(Check check) {
        check.due("agree() without dials", new SundialSpans().agree(), Check.NOT_POSSIBLE);
        check.due("agree() without readings", Make.dials(15).agree(), Check.NOT_POSSIBLE);
        SundialSpans court = Make.dials(15);
        court.read(14, 7, 0);
        check.due("agree() with one span", court.agree(), 100007);
    }

    private static void hourAtEnds(Check check) {
        // The best overlap is 0 to 8, the hour 4: dial 1 ends there, dial 2 begins a minute after it.
        SundialSpans ends = Check.withReadings(4, 4, 2, 2, 7, 2);
        check.due("the hour", ends.agree(), 100004);
        check.due("it is the high end of dial 1", ends.of(1, 5), 0);
        check.due("it is a minute ahead of dial 2", ends.of(2, 5), 1);
        check.due("who is there", ends.best(4), 3);
        // Once more with dial 1 from 1 to 3, and dial 2 from 4 to 8.
        SundialSpans begins = Check.withReadings(5, 5, 2, 1, 6, 2);
        check.due("the hour", begins.agree(), 100004);
        check.due("it is a minute after dial 1", begins.of(1, 5), 1);
        check.due("it is the low end of dial 2", begins.of(2, 5), 0);
        check.due("who is there", begins.best(4), 5);
    }

    private static void rowEnds(Check check) {
        SundialSpans court = Make.liar(2, 3);
        check.due("lies in a row", court.of(2, 5), 2);
        court.read(2, 600, 0);
        check.due("a reading does not end them", court.of(2, 5), 2);
        court.agree();
        check.due("an honest time does", court.of(2, 5), 0);
        check.due("lies so far stay", court.of(2, 4), 2);
        court.read(2, 700, 0);
        Make.agree(court, 2);
        check.due("4 lies, 2 of them in a row, strike no dial", court.of(2, 6), 0);
        court.agree();
        check.due("3 in a row do", court.of(2, 6), 1);
    }

    private static void otherOnes(Check check) {
        SundialSpans court = Make.liar(1, 2);
        court.dial();
        check.due("lies so far", court.of(2, 4), 1);
        check.due("lies in a row", court.of(2, 5), 1);
        court.agree();
        check.due("lies so far, once more", court.of(2, 4), 2);
        check.due("lies in a row, once more", court.of(2, 5), 2);
        court.agree();
        check.due("lies so far of one that is struck", court.of(2, 4), 2);
        check.due("lies in a row of one that is struck", court.of(2, 5), 2);
        check.due("lies so far of one without a reading", court.of(3, 4), 0);
        check.due("lies in a row of one without a reading", court.of(3, 5), 0);
        check.due("lies so far of an honest one", court.of(0, 4), 0);
        SundialSpans first = Check.withReadings(900, 0, 600, 0, 600, 0);
        first.agree();
        check.due("lies so far of the first dial", first.of(0, 4), 1);
        SundialSpans last = Make.crowd(14, 600, 0);
        last.read(last.dial(), 900, 0);
        last.agree();
        check.due("lies in a row of the last dial", last.of(14, 5), 1);
    }

    private static void oftenOrMore(Check check) {
        check.due("one time fewer", Make.liar(2, 3).count(3), 0);
        check.due("so many times", Make.liar(3, 3).count(3), 4);
        check.due("OFTEN is 1", Make.liar(1, 1).count(3), 4);
        check.due("19 of 20", Make.liar(19, 20).count(3), 0);
        check.due("20 of 20", Make.liar(20, 20).count(3), 4);
        SundialSpans more = Make.liar(9, 20);
        more.set(SundialSpans.OFTEN, 2);
        more.agree();
        check.due("10 times, when OFTEN is 2 by then", more.count(3), 4);
        SundialSpans raised = Make.liar(2, 3);
        raised.set(SundialSpans.OFTEN, 4);
        raised.agree();
        check.due("3 times, when OFTEN is 4 by then", raised.count(3), 0);
    }

    private static void forEver(Check check) {
        SundialSpans court = Make.liar(1, 1);
        court.set(SundialSpans.OFTEN, 20);
        check.due("after set()", court.of(2, 6), 1);
        court.read(2, 600, 0);
        check.due("after read()", court.of(2, 6), 1);
        Make.passTo(court, 99999);
        check.due("after a long time", court.of(2, 6), 1);
        Make.agree(court, 30);
        check.due("after agree() 30 times", court.of(2, 6), 1);
        check.due("it has no span", court.count(2), 3);
    }

    private static void setStrikesNone(Check check) {
        SundialSpans court = Make.liar(2, 3);
        court.set(SundialSpans.OFTEN, 2);
        check.due("2 lies, when OFTEN is 2 by then", court.count(3), 0);
        court.set(SundialSpans.OFTEN, 1);
        check.due("2 lies, when OFTEN is 1 by then", court.count(3), 0);
        check.due("it has a span", court.count(2), 7);
        check.due("it is read", court.read(2, 600, 0), 0);
        court.agree();
        check.due("it is honest, and not struck", court.count(3), 0);
    }
}
