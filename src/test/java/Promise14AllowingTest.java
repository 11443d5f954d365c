/** Promise 14: allowing. */
final class Promise14AllowingTest {
    public static void main(String[] args) {
        Check check = new Check("allowing");
        SundialSpans court = Check.withReadings(600, 5, 604, 3, 608, 2, 640, 10);
        pair(check, court, 0, Check.NONE, Check.NONE);
        pair(check, court, 1, Check.NONE, Check.NONE);
        pair(check, court, 2, 100601, 100607);
        pair(check, court, 3, 100595, 100610);
        pair(check, court, 4, 100595, 100610);
        pair(check, court, 14, 100595, 100610);

        SundialSpans all = Check.withReadings(100, 10, 105, 10, 110, 10);
        pair(check, all, 0, 100100, 100110);
        pair(check, all, 1, 100095, 100115);
        pair(check, all, 2, 100090, 100120);

        SundialSpans two = Check.withReadings(10, 0, 20, 0);
        pair(check, two, 1, 100010, 100010);
        pair(check, Check.withReadings(5, 0, 6, 0), 1, 100005, 100006);
        pair(check, Check.withReadings(5, 0, 6, 0), 0, Check.NONE, Check.NONE);
        pair(check, Check.withReadings(0, 300), 0, 99700, 100300);
        // From 0 to 3 it is dials 0 and 1, from 4 to 10 dials 1 and 2.
        pair(check, Check.withReadings(1, 2, 5, 5, 17, 13), 1, 100000, 100010);

        SundialSpans empty = new SundialSpans();
        pair(check, empty, 0, Check.NONE, Check.NONE);
        pair(check, empty, 14, Check.NONE, Check.NONE);
        errors(check, empty);
        errors(check, court);
        check.end();
    }

    private static void pair(Check check, SundialSpans court, int liars, int low, int high) {
        check.due("allowing(" + liars + ", 0)", court.allowing(liars, 0), low);
        check.due("allowing(" + liars + ", 1)", court.allowing(liars, 1), high);
    }

    private static void errors(Check check, SundialSpans court) {
        for (int wrong : new int[] {-1, 15, Integer.MAX_VALUE, Integer.MIN_VALUE}) {
            check.due("allowing(" + wrong + ", 0)", court.allowing(wrong, 0), Check.BAD_VALUE);
        }
        for (int wrong : new int[] {-1, 2, Integer.MAX_VALUE, Integer.MIN_VALUE}) {
            check.due("allowing(0, " + wrong + ")", court.allowing(0, wrong), Check.BAD_VALUE);
        }
    }
}
