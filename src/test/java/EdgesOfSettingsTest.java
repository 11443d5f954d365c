/** The boundary sentences of "Settings" and of "Dials, spans", which stands below it. */
final class EdgesOfSettingsTest {
    static Edges edges() {
        return new Edges("Settings")
            .at("(In parentheses: range; first value.)", EdgesOfSettingsTest::firstValues)
            .at("WIDEN (0 to 60; 2)", EdgesOfSettingsTest::rangeOfWiden)
            .at("minutes by which a span becomes wider, at each end, for each whole 60 minutes of its age",
                EdgesOfSettingsTest::wholeHoursOfAge)
            .at("OFTEN (1 to 20; 3)", EdgesOfSettingsTest::rangeOfOften)
            .at("times that a dial may lie in a row.", EdgesOfSettingsTest::liesInARow)
            .at("There are up to 15 dials", EdgesOfSettingsTest::upTo15Dials)
            .at("numbered in the order in which they came.", EdgesOfSettingsTest::orderOfComing)
            .at("A dial has a reading, or none yet: the time that it told, a doubt, and when that was.",
                EdgesOfSettingsTest::readingOrNone)
            .at("The time of now is 0 at first", EdgesOfSettingsTest::nowIs0AtFirst)
            .at("it goes on by pass().", EdgesOfSettingsTest::onlyPassLetsTimePass)
            .at("The span of a dial with a reading goes from a low end to a high one, both in it",
                EdgesOfSettingsTest::bothEndsAreIn)
            .at("with the age being the time of now less the time of the reading, and m the time that it told and the age "
                + "together", EdgesOfSettingsTest::ageAndMiddle)
            .at("the low end is m less the doubt less WIDEN * (age / 60)", EdgesOfSettingsTest::lowEnds)
            .at("the high end m and the doubt and WIDEN * (age / 60).", EdgesOfSettingsTest::highEnds)
            .at("Dials that are struck have no span.", EdgesOfSettingsTest::struckDials);
    }

    public static void main(String[] args) {
        edges().run();
    }

    private static void firstValues(Check check) {
        SundialSpans court = Check.withReadings(600, 0, 600, 0, 700, 0);
        check.due("WIDEN", court.count(6), 2);
        check.due("OFTEN", court.count(7), 3);
        court.pass(60);
        check.due("a span is wider by 2 after 60 minutes", court.of(0, 1), 100662);
        Make.agree(court, 2);
        check.due("2 lies strike no dial", court.count(3), 0);
        Make.agree(court, 1);
        check.due("3 lies do", court.count(3), 4);
    }

    private static void rangeOfWiden(Check check) {
        SundialSpans court = Check.withReadings(600, 0);
        court.pass(60);
        check.due("-1", court.set(SundialSpans.WIDEN, -1), Check.BAD_VALUE);
        check.due("61", court.set(SundialSpans.WIDEN, 61), Check.BAD_VALUE);
        check.due("0, after the first value", court.set(SundialSpans.WIDEN, 0), 2);
        check.due("the span with 0", court.of(0, 0), 100660);
        check.due("60, after 0", court.set(SundialSpans.WIDEN, 60), 0);
        check.due("the span with 60", court.of(0, 0), 100600);
        check.due("60 is kept", court.count(6), 60);
    }

    private static void wholeHoursOfAge(Check check) {
        SundialSpans court = Check.withReadings(1000, 5);
        int[][] agesAndReaches = {{59, 5}, {60, 7}, {119, 7}, {120, 9}, {1439, 51}, {1440, 53}};
        for (int[] pair : agesAndReaches) {
            Make.passTo(court, pair[0]);
            check.due("low end at age " + pair[0], court.of(0, 0), 101000 + pair[0] - pair[1]);
            check.due("high end at age " + pair[0], court.of(0, 1), 101000 + pair[0] + pair[1]);
        }
        court.read(0, 1000, 5);
        check.due("a new reading is of age 0", court.of(0, 0), 100995);
        court.pass(59);
        check.due("59 minutes after it", court.of(0, 1), 101064);
    }

    private static void rangeOfOften(Check check) {
        SundialSpans court = new SundialSpans();
        check.due("0", court.set(SundialSpans.OFTEN, 0), Check.BAD_VALUE);
        check.due("21", court.set(SundialSpans.OFTEN, 21), Check.BAD_VALUE);
        check.due("1, after the first value", court.set(SundialSpans.OFTEN, 1), 3);
        check.due("20, after 1", court.set(SundialSpans.OFTEN, 20), 1);
        check.due("20 is kept", court.count(7), 20);
    }

    private static void liesInARow(Check check) {
        check.due("not one, if OFTEN is 1", Make.liar(1, 1).of(2, 6), 1);
        SundialSpans court = Make.liar(19, 20);
        check.due("19 do not strike, if OFTEN is 20", court.of(2, 6), 0);
        court.agree();
        check.due("20 do", court.of(2, 6), 1);
    }

    private static void upTo15Dials(Check check) {
        SundialSpans court = Make.dials(14);
        check.due("the 15th dial", court.dial(), 14);
        check.due("the 16th dial", court.dial(), Check.TOO_MANY);
        check.due("dials", court.count(1), 15);
        check.due("the last one is read", court.read(14, 9999, 300), Check.NONE);
        check.due("there is no dial 15", court.read(15, 9999, 300), Check.NO_SUCH);
    }

    private static void orderOfComing(Check check) {
        SundialSpans court = new SundialSpans();
        for (int dial = 0; dial < 15; dial++) {
            check.due("dial() " + dial, court.dial(), dial);
            court.read(dial, 100 + dial, dial);
        }
        court.undo();
        court.undo();
        check.due("a dial that comes again", court.dial(), 14);
        for (int dial = 0; dial < 14; dial++) {
            check.due("doubt of dial " + dial, court.of(dial, 3), dial);
        }
    }

    private static void readingOrNone(Check check) {
        SundialSpans court = Make.dials(2);
        court.read(1, 0, 0);
        for (int what = 0; what < 4; what++) {
            check.due("of(0, " + what + ") of a dial that has none", court.of(0, what), Check.NONE);
        }
        check.due("low end of a reading of 0 and 0", court.of(1, 0), 100000);
        check.due("its age", court.of(1, 2), 0);
        check.due("its doubt", court.of(1, 3), 0);
        check.due("spans", court.count(2), 2);
    }

    private static void nowIs0AtFirst(Check check) {
        SundialSpans court = new SundialSpans();
        check.due("count(0)", court.count(0), 0);
        check.due("pass(1)", court.pass(1), 1);
    }

    private static void onlyPassLetsTimePass(Check check) {
        SundialSpans court = Check.withReadings(600, 5, 900, 5);
        court.agree();
        court.set(SundialSpans.WIDEN, 5);
        court.widerIn(2);
        Check.write(court, "d;a");
        court.carryOut();
        court.pass(0);
        court.pass(1441);
        check.due("the time of now after all but pass()", court.count(0), 0);
        check.due("a reading is as old", court.of(0, 2), 0);
        court.pass(5);
        court.pass(7);
        check.due("after pass() twice", court.count(0), 12);
        check.due("a reading is as old", court.of(0, 2), 12);
    }

    private static void bothEndsAreIn(Check check) {
        SundialSpans court = Check.withReadings(600, 5);
        int[][] timesAndOverlaps = {{594, 0}, {595, 1}, {605, 1}, {606, 0}};
        for (int[] pair : timesAndOverlaps) {
            check.due("overlap(" + pair[0] + ")", court.overlap(pair[0]), pair[1]);
        }
        SundialSpans touching = Check.withReadings(600, 5, 610, 5);
        check.due("a high end and a low one at one time overlap", touching.best(0), 2);
        check.due("from there", touching.best(1), 100605);
        check.due("to there", touching.best(2), 100605);
        SundialSpans apart = Check.withReadings(600, 5, 611, 5);
        check.due("a minute apart they do not", apart.best(0), 1);
    }

    private static void ageAndMiddle(Check check) {
        SundialSpans court = new SundialSpans();
        court.dial();
        court.pass(30);
        court.read(0, 600, 0);
        check.due("a reading goes on from what it told", court.of(0, 0), 100600);
        court.pass(1);
        check.due("a minute later", court.of(0, 0), 100601);
        check.due("its age", court.of(0, 2), 1);
        court.pass(58);
        check.due("it is wider by its own age alone, not at 89", court.of(0, 0), 100659);
        court.pass(1);
        check.due("but at 90", court.of(0, 0), 100658);
    }

    private static void lowEnds(Check check) {
        SundialSpans court = Check.withReadings(0, 300, 9999, 0);
        check.due("the lowest end of all", court.of(0, 0), 99700);
        check.due("without a doubt", court.of(1, 0), 109999);
        court.set(SundialSpans.WIDEN, 60);
        court.pass(1440);
        check.due("at a day with WIDEN 60", court.of(0, 0), 99700);
        court.pass(59);
        check.due("59 minutes later", court.of(0, 0), 99759);
        Make.passTo(court, 99999);
        check.due("at the end of time", court.of(0, 0), 99739);
        check.due("of 9999 at the end of time", court.of(1, 0), 110038);
    }

    private static void highEnds(Check check) {
        SundialSpans court = Check.withReadings(9999, 300, 0, 0);
        check.due("the highest end at first", court.of(0, 1), 110299);
        check.due("without a doubt", court.of(1, 1), 100000);
        court.set(SundialSpans.WIDEN, 60);
        court.pass(1440);
        check.due("at a day with WIDEN 60", court.of(0, 1), 113179);
        Make.passTo(court, 99999);
        check.due("the highest end of all", court.of(0, 1), 310258);
        check.due("of 0 at the end of time", court.of(1, 1), 299959);
        court.set(SundialSpans.WIDEN, 0);
        check.due("with WIDEN 0", court.of(0, 1), 210298);
    }

    private static void struckDials(Check check) {
        SundialSpans court = Make.liar(2, 3);
        check.due("spans ahead of the third lie", court.count(2), 7);
        court.agree();
        check.due("spans then", court.count(2), 3);
        check.due("low end", court.of(2, 0), Check.NONE);
        check.due("high end", court.of(2, 1), Check.NONE);
        check.due("overlap where it was", court.overlap(700), 0);
        check.due("there are 4 ends", court.end(4, 0), Check.NO_SUCH);
        check.due("fewest()", court.fewest(), 0);
    }
}
