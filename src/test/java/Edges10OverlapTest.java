/** The boundary sentences of "Promise 10: overlap". */
final class Edges10OverlapTest {
    static Edges edges() {
        return new Edges("Promise 10: overlap")
            .at("`time`: -99999 to 299999", Edges10OverlapTest::firstAndLastTime)
            .at("Returns how many spans have it", Edges10OverlapTest::howMany)
            .at("BAD_VALUE if time is out of range.", Edges10OverlapTest::outOfRange);
    }

    public static void main(String[] args) {
        edges().run();
    }

    private static void firstAndLastTime(Check check) {
        SundialSpans court = Check.withReadings(600, 5);
        check.due("overlap(-99999)", court.overlap(-99999), 0);
        check.due("overlap(-100000)", court.overlap(-100000), Check.BAD_VALUE);
        check.due("overlap(299999)", court.overlap(299999), 0);
        check.due("overlap(300000)", court.overlap(300000), Check.BAD_VALUE);
    }

    private static void howMany(Check check) {
        SundialSpans court = Check.withReadings(0, 300, 0, 299, 0, 0);
        int[][] timesAndOverlaps = {
            {-301, 0}, {-300, 1}, {-299, 2}, {-1, 2}, {0, 3}, {1, 2}, {299, 2}, {300, 1}, {301, 0}};
        for (int[] pair : timesAndOverlaps) {
            check.due("overlap(" + pair[0] + ")", court.overlap(pair[0]), pair[1]);
        }
        check.due("of all 15", Make.crowd(15, 9999, 300).overlap(9699), 15);
        check.due("beside all 15", Make.crowd(15, 9999, 300).overlap(9698), 0);
        check.due("without dials", new SundialSpans().overlap(0), 0);
        SundialSpans old = Check.withReadings(9999, 300);
        old.set(SundialSpans.WIDEN, 60);
        Make.passTo(old, 99999);
        check.due("at the highest end", old.overlap(210258), 1);
        check.due("above it", old.overlap(210259), 0);
    }

    private static void outOfRange(Check check) {
        SundialSpans court = Check.withReadings(600, 5);
        for (int time : new int[] {-100000, 300000, Make.LEAST, Make.MOST}) {
            check.due("overlap(" + time + ")", court.overlap(time), Check.BAD_VALUE);
            check.due("overlap(" + time + ") without dials", new SundialSpans().overlap(time), Check.BAD_VALUE);
        }
    }
}
