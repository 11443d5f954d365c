/** The boundary sentences of "Promise 9: end". */
final class Edges09EndTest {
    static Edges edges() {
        return new Edges("Promise 9: end")
            .at("Returns an end of a span by order: by time", Edges09EndTest::byTime)
            .at("low ends ahead of high ends", Edges09EndTest::lowEndsAhead)
            .at("then by dials.", Edges09EndTest::byDials)
            .at("`rank`: 0 for the first one", Edges09EndTest::firstAndLast)
            .at("`what`: 0 its time and 100000", Edges09EndTest::times)
            .at("1 its dial", Edges09EndTest::dials)
            .at("2 whether it is a high end (1 or 0)", Edges09EndTest::sides)
            .at("NO_SUCH if there are not so many", Edges09EndTest::notSoMany)
            .at("BAD_VALUE if what is out of range.", Edges09EndTest::outOfRange);
    }

    public static void main(String[] args) {
        edges().run();
    }

    /** Each row is a time, a dial, and whether it is a high end. */
    private static void order(Check check, SundialSpans court, int[]... rows) {
        for (int rank = 0; rank < rows.length; rank++) {
            check.due("time of rank " + rank, court.end(rank, 0), 100000 + rows[rank][0]);
            check.due("dial of rank " + rank, court.end(rank, 1), rows[rank][1]);
            check.due("side of rank " + rank, court.end(rank, 2), rows[rank][2]);
        }
        check.due("there are no more", court.end(rows.length, 0), Check.NO_SUCH);
    }

    private static void byTime(Check check) {
        order(check, Check.withReadings(50, 1, 10, 5),
            new int[] {5, 1, 0}, new int[] {15, 1, 1}, new int[] {49, 0, 0}, new int[] {51, 0, 1});
        order(check, Check.withReadings(0, 299, 0, 300),
            new int[] {-300, 1, 0}, new int[] {-299, 0, 0}, new int[] {299, 0, 1}, new int[] {300, 1, 1});
        order(check, Check.withReadings(0, 1, 0, 0),
            new int[] {-1, 0, 0}, new int[] {0, 1, 0}, new int[] {0, 1, 1}, new int[] {1, 0, 1});
    }

    private static void lowEndsAhead(Check check) {
        // At 10 dial 0 ends, and dial 1 begins.
        order(check, Check.withReadings(5, 5, 15, 5),
            new int[] {0, 0, 0}, new int[] {10, 1, 0}, new int[] {10, 0, 1}, new int[] {20, 1, 1});
        order(check, Check.withReadings(7, 0, 7, 0),
            new int[] {7, 0, 0}, new int[] {7, 1, 0}, new int[] {7, 0, 1}, new int[] {7, 1, 1});
    }

    private static void byDials(Check check) {
        SundialSpans court = Make.crowd(15, 600, 5);
        for (int dial = 0; dial < 15; dial++) {
            check.due("dial of low end " + dial, court.end(dial, 1), dial);
            check.due("dial of high end " + dial, court.end(15 + dial, 1), dial);
        }
    }

    private static void firstAndLast(Check check) {
        SundialSpans all = Make.crowd(15, 600, 5);
        check.due("the first of 30", all.end(0, 0), 100595);
        check.due("the last of 30", all.end(29, 0), 100605);
        check.due("there is no 31st", all.end(30, 0), Check.NO_SUCH);
        SundialSpans one = Check.withReadings(600, 0);
        check.due("the first of two", one.end(0, 2), 0);
        check.due("the last of two", one.end(1, 2), 1);
    }

    private static void times(Check check) {
        SundialSpans below = Check.withReadings(0, 300, 0, 299);
        check.due("the lowest", below.end(0, 0), 99700);
        check.due("the next one, of another dial", below.end(1, 0), 99701);
        SundialSpans old = Check.withReadings(9999, 300);
        old.set(SundialSpans.WIDEN, 60);
        Make.passTo(old, 99999);
        check.due("the highest", old.end(1, 0), 310258);
    }

    private static void dials(Check check) {
        SundialSpans court = Make.dials(15);
        court.read(14, 600, 5);
        check.due("the last dial", court.end(0, 1), 14);
        court.read(0, 0, 300);
        check.due("the first dial, below 0", court.end(0, 1), 0);
        check.due("the last dial then", court.end(2, 1), 14);
    }

    private static void sides(Check check) {
        SundialSpans court = Check.withReadings(0, 300);
        check.due("a low end, below 0", court.end(0, 2), 0);
        check.due("a high end", court.end(1, 2), 1);
        SundialSpans minute = Check.withReadings(0, 0);
        check.due("the low end of one minute", minute.end(0, 2), 0);
        check.due("the high end of one minute", minute.end(1, 2), 1);
    }

    private static void notSoMany(Check check) {
        SundialSpans court = Make.liar(1, 1);
        for (int rank : new int[] {-1, 4, 5, 30, Make.LEAST, Make.MOST}) {
            check.due("end(" + rank + ", 0)", court.end(rank, 0), Check.NO_SUCH);
            check.due("end(" + rank + ", 3)", court.end(rank, 3), Check.NO_SUCH);
        }
        check.due("end(3, 0)", court.end(3, 0), 100600);
        check.due("end(0, 0) without dials", new SundialSpans().end(0, 0), Check.NO_SUCH);
        check.due("end(0, 0) without readings", Make.dials(15).end(0, 0), Check.NO_SUCH);
    }

    private static void outOfRange(Check check) {
        SundialSpans court = Check.withReadings(600, 5);
        for (int what : new int[] {-1, 3, Make.LEAST, Make.MOST}) {
            check.due("end(0, " + what + ")", court.end(0, what), Check.BAD_VALUE);
            check.due("end(1, " + what + ")", court.end(1, what), Check.BAD_VALUE);
        }
    }
}
