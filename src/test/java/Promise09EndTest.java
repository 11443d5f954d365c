/** Promise 9: end. */
final class Promise09EndTest {
    public static void main(String[] args) {
        Check check = new Check("end");
        SundialSpans court = Check.withReadings(10, 5, 15, 0, 5, 0, 20, 5, 10, 5);
        int[][] ends = {
            {5, 0, 0}, {5, 2, 0}, {5, 4, 0}, {5, 2, 1},
            {15, 1, 0}, {15, 3, 0}, {15, 0, 1}, {15, 1, 1}, {15, 4, 1},
            {25, 3, 1}};
        for (int rank = 0; rank < ends.length; rank++) {
            check.due("end(" + rank + ", 0)", court.end(rank, 0), 100000 + ends[rank][0]);
            check.due("end(" + rank + ", 1)", court.end(rank, 1), ends[rank][1]);
            check.due("end(" + rank + ", 2)", court.end(rank, 2), ends[rank][2]);
        }
        for (int rank : new int[] {-1, 10, Integer.MAX_VALUE, Integer.MIN_VALUE}) {
            check.due("end(" + rank + ", 0)", court.end(rank, 0), Check.NO_SUCH);
            check.due("end(" + rank + ", 3)", court.end(rank, 3), Check.NO_SUCH);
        }
        for (int what : new int[] {-1, 3, Integer.MAX_VALUE, Integer.MIN_VALUE}) {
            check.due("end(0, " + what + ")", court.end(0, what), Check.BAD_VALUE);
            check.due("end(9, " + what + ")", court.end(9, what), Check.BAD_VALUE);
        }

        SundialSpans below = Check.withReadings(0, 300, 0, 299);
        check.due("an end below 0", below.end(0, 0), 99700);
        check.due("its dial", below.end(0, 1), 0);
        check.due("the next end below 0", below.end(1, 0), 99701);
        check.due("its dial", below.end(1, 1), 1);
        check.due("its side", below.end(1, 2), 0);
        numbersWithoutSpans(check);
        check.end();
    }

    private static void numbersWithoutSpans(Check check) {
        SundialSpans court = new SundialSpans();
        check.due("end(0, 0) without dials", court.end(0, 0), Check.NO_SUCH);
        for (int dial = 0; dial < 15; dial++) {
            court.dial();
        }
        check.due("end(0, 0) without readings", court.end(0, 0), Check.NO_SUCH);
        court.read(14, 300, 2);
        court.read(7, 300, 1);
        check.due("the dial of the first end", court.end(0, 1), 14);
        check.due("the dial of the second end", court.end(1, 1), 7);
        check.due("the dial of the last end", court.end(3, 1), 14);
        check.due("end(4, 0)", court.end(4, 0), Check.NO_SUCH);
    }
}
