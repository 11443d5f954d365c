/** Promise 12: mean. */
final class Promise12MeanTest {
    public static void main(String[] args) {
        Check check = new Check("mean");
        check.due("mean() without spans", new SundialSpans().mean(), 0L);
        check.due("mean() of 0", Check.withReadings(0, 300).mean(), 0L);
        check.due("mean() of 1", Check.withReadings(1, 300).mean(), Double.doubleToLongBits(wanted(1, 300)));
        check.due("mean() of one reading", Check.withReadings(600, 7).mean(), bitsOf(600, 7));
        check.due("mean() of the first example", Check.withReadings(600, 5, 604, 3, 608, 2, 640, 10).mean(),
            4648563353657393506L);
        int[][] rows = {
            {9999, 300, 9998, 299, 9997, 298}, {0, 0, 1, 300}, {0, 300, 1, 0}, {3, 1, 3, 2, 3, 3}, {0, 0, 0, 0, 1, 299},
            {1, 1, 10, 2, 100, 3, 1000, 4, 9999, 5, 7, 6, 77, 7, 777, 8, 7777, 9, 2, 10, 22, 11, 222, 12, 2222, 13, 5, 14,
                55, 15}};
        for (int[] row : rows) {
            check.due("mean() of " + row.length / 2 + " readings", Check.withReadings(row).mean(), bitsOf(row));
        }
        manyMeans(check);
        struckOnesAreLeftOut(check);
        olderSpans(check);
        check.end();
    }

    private static long bitsOf(int... timesAndDoubts) {
        return Double.doubleToLongBits(wanted(timesAndDoubts));
    }

    private static double wanted(int... timesAndDoubts) {
        double products = 0.0;
        double weights = 0.0;
        for (int i = 0; i < timesAndDoubts.length; i += 2) {
            double low = timesAndDoubts[i] - timesAndDoubts[i + 1];
            double high = timesAndDoubts[i] + timesAndDoubts[i + 1];
            double weight = 1.0 / (high - low + 1.0);
            products += (low + high) / 2.0 * weight;
            weights += weight;
        }
        return products / weights;
    }

    private static void manyMeans(Check check) {
        int time = 17;
        for (int round = 0; round < 300; round++) {
            int[] row = new int[2 + 2 * (round % 15)];
            for (int i = 0; i < row.length; i += 2) {
                time = (time * 1103 + 12345) % 10000;
                row[i] = time;
                row[i + 1] = time * 7 % 301;
            }
            check.due("mean() of round " + round, Check.withReadings(row).mean(), bitsOf(row));
        }
    }

    private static void struckOnesAreLeftOut(Check check) {
        SundialSpans court = Check.withReadings(100, 5, 102, 6, 900, 1);
        court.set(SundialSpans.OFTEN, 1);
        court.agree();
        check.due("mean() without a struck one", court.mean(), bitsOf(100, 5, 102, 6));
    }

    private static void olderSpans(Check check) {
        SundialSpans court = Check.withReadings(100, 5, 500, 1);
        court.pass(120);
        court.read(1, 500, 1);
        check.due("mean() of spans of two ages", court.mean(), bitsOf(220, 9, 500, 1));
    }
}
