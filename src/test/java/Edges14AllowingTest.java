/** The boundary sentences of "Promise 14: allowing". */
final class Edges14AllowingTest {
    static Edges edges() {
        return new Edges("Promise 14: allowing")
            .at("Returns the first overlap with some liars allowed: the lowest times, side by side",
                Edges14AllowingTest::lowestTimes)
            .at("each of which all spans have but at most so many", Edges14AllowingTest::atMostSoMany)
            .at("(which ones, can differ from time to time", Edges14AllowingTest::canDiffer)
            .at("and at least one has it).", Edges14AllowingTest::atLeastOne)
            .at("`liars`: 0 to 14", Edges14AllowingTest::fewestAndMostLiars)
            .at("`what`: 0 its low end and 100000, 1 its high end and 100000", Edges14AllowingTest::ends)
            .at("BAD_VALUE if an argument is out of range", Edges14AllowingTest::outOfRange)
            .at("NONE if there is no such time", Edges14AllowingTest::noSuchTime)
            .at(", or no span.", Edges14AllowingTest::noSpan);
    }

    public static void main(String[] args) {
        edges().run();
    }

    private static void bounds(Check check, SundialSpans court, int liars, int low, int high) {
        check.due("allowing(" + liars + ", 0)", court.allowing(liars, 0), 100000 + low);
        check.due("allowing(" + liars + ", 1)", court.allowing(liars, 1), 100000 + high);
    }

    private static void none(Check check, SundialSpans court, int liars) {
        check.due("allowing(" + liars + ", 0)", court.allowing(liars, 0), Check.NONE);
        check.due("allowing(" + liars + ", 1)", court.allowing(liars, 1), Check.NONE);
    }

    private static void lowestTimes(Check check) {
        // 2 of 5 are enough: the lowest place, though 3 overlap at a later one, and for longer.
        bounds(check, Check.withReadings(500, 50, 500, 50, 500, 50, 100, 0, 100, 0), 3, 100, 100);
        bounds(check, Check.withReadings(5, 0, 7, 0), 1, 5, 5);
        bounds(check, Check.withReadings(5, 0, 6, 0), 1, 5, 6);
        bounds(check, Check.withReadings(8, 1, 5, 1, 2, 1, 12, 1), 3, 1, 9);
        bounds(check, Check.withReadings(0, 300), 0, -300, 300);
    }

    private static void atMostSoMany(Check check) {
        SundialSpans court = Check.withReadings(100, 10, 105, 10, 110, 10);
        bounds(check, court, 0, 100, 110);
        bounds(check, court, 1, 95, 115);
        bounds(check, court, 2, 90, 120);
        SundialSpans lonely = Make.lonely();
        none(check, lonely, 13);
        bounds(check, lonely, 14, 100, 100);
        bounds(check, Make.crowd(15, 600, 5), 0, 595, 605);
    }

    private static void canDiffer(Check check) {
        // From 0 to 3 it is the dial that goes from 4 on that lies, from 4 to 10 the one that ends at 3.
        bounds(check, Check.withReadings(1, 2, 5, 5, 17, 13), 1, 0, 10);
        // In the minute after one that ends, two begin.
        bounds(check, Check.withReadings(2, 2, 7, 2, 7, 2), 2, 0, 9);
        // Fewer lie in the midst of it.
        bounds(check, Check.withReadings(5, 5, 10, 5), 1, 0, 15);
    }

    private static void atLeastOne(Check check) {
        SundialSpans two = Check.withReadings(600, 5, 620, 5);
        bounds(check, two, 1, 595, 605);
        bounds(check, two, 2, 595, 605);
        bounds(check, two, 14, 595, 605);
        bounds(check, Check.withReadings(600, 0), 1, 600, 600);
    }

    private static void fewestAndMostLiars(Check check) {
        SundialSpans court = Check.withReadings(600, 5);
        check.due("-1", court.allowing(-1, 0), Check.BAD_VALUE);
        check.due("15", court.allowing(15, 0), Check.BAD_VALUE);
        check.due("0", court.allowing(0, 0), 100595);
        check.due("14", court.allowing(14, 0), 100595);
    }

    private static void ends(Check check) {
        bounds(check, Check.withReadings(0, 0), 0, 0, 0);
        bounds(check, Check.withReadings(9999, 300), 0, 9699, 10299);
        SundialSpans old = Check.withReadings(9999, 300);
        old.set(SundialSpans.WIDEN, 60);
        Make.passTo(old, 99999);
        bounds(check, old, 0, 9738, 210258);
    }

    private static void outOfRange(Check check) {
        SundialSpans court = Check.withReadings(600, 5);
        for (int liars : new int[] {-1, 15, Make.LEAST, Make.MOST}) {
            check.due("allowing(" + liars + ", 0)", court.allowing(liars, 0), Check.BAD_VALUE);
            check.due("allowing(" + liars + ", 0) without a span", new SundialSpans().allowing(liars, 0), Check.BAD_VALUE);
        }
        for (int what : new int[] {-1, 2, Make.LEAST, Make.MOST}) {
            check.due("allowing(0, " + what + ")", court.allowing(0, what), Check.BAD_VALUE);
            check.due("allowing(0, " + what + ") without a span", new SundialSpans().allowing(0, what), Check.BAD_VALUE);
        }
    }

    private static void noSuchTime(Check check) {
        none(check, Check.withReadings(5, 0, 6, 0), 0);
        none(check, Check.withReadings(600, 5, 604, 3, 608, 2, 640, 10), 1);
        bounds(check, Check.withReadings(600, 5, 604, 3, 608, 2, 640, 10), 2, 601, 607);
    }

    private static void noSpan(Check check) {
        for (int liars = 0; liars <= 14; liars++) {
            none(check, new SundialSpans(), liars);
            none(check, Make.dials(15), liars);
        }
    }
}
