/** The boundary sentences of "Promise 12: mean". */
final class Edges12MeanTest {
    static Edges edges() {
        return new Edges("Promise 12: mean")
            .at("Returns the mean of the middles of all spans, by weights: the bits, as Double.doubleToLongBits tells them.",
                Edges12MeanTest::bits)
            .at("The middle of a span is its low and high end together, as a double, divided by 2", Edges12MeanTest::middles)
            .at("its weight is 1, as a double, divided by (its high end less its low one, and 1).", Edges12MeanTest::weights)
            .at("The products of middle and weight are added up by the numbers of the dials", Edges12MeanTest::byNumbers)
            .at("from 0.0 on, and likewise the weights", Edges12MeanTest::all15)
            .at("the mean is the first sum divided by the second one.", Edges12MeanTest::oneSpan)
            .at("Returns the bits (of 0.0, if there is no span).", Edges12MeanTest::noSpan);
    }

    public static void main(String[] args) {
        edges().run();
    }

    private static void mean(Check check, SundialSpans court, double due) {
        check.due("mean() of " + due, court.mean(), Double.doubleToLongBits(due));
    }

    private static void bits(Check check) {
        check.due("of 0.0", Check.withReadings(0, 0).mean(), 0L);
        check.due("of 1.0", Check.withReadings(1, 0).mean(), 4607182418800017408L);
        check.due("of 9999.0", Check.withReadings(9999, 0).mean(), 4666722622711529472L);
        SundialSpans old = Check.withReadings(9999, 300);
        old.set(SundialSpans.WIDEN, 60);
        Make.passTo(old, 99999);
        check.due("of 109998.0, the greatest one", old.mean(), 4682295418212581376L);
        check.due("of the least one above 0.0", Check.withReadings(1, 300, 0, 0).mean(),
            Double.doubleToLongBits(1.0 / 601.0 / (1.0 / 601.0 + 1.0)));
    }

    private static void middles(Check check) {
        mean(check, Check.withReadings(0, 300), 0.0);
        mean(check, Check.withReadings(600, 0), 600.0);
        SundialSpans court = Check.withReadings(600, 0);
        court.pass(60);
        check.due("low end", court.of(0, 0), 100658);
        mean(check, court, 660.0 * (1.0 / 5.0) / (1.0 / 5.0));
    }

    private static void weights(Check check) {
        // A span of one minute has a weight of 1, the widest at first one of a 601st.
        double widest = 1.0 / 601.0;
        mean(check, Check.withReadings(0, 0, 100, 0), 50.0);
        mean(check, Check.withReadings(1000, 0, 9000, 300), (1000.0 + 9000.0 * widest) / (1.0 + widest));
        SundialSpans old = Check.withReadings(1000, 300);
        old.set(SundialSpans.WIDEN, 60);
        Make.passTo(old, 99999);
        old.read(old.dial(), 9, 0);
        double weight = 1.0 / 200521.0;
        mean(check, old, (100999.0 * weight + 9.0) / (weight + 1.0));
    }

    private static void byNumbers(Check check) {
        check.due("mean() of three", Check.withReadings(1, 1, 2, 2, 7, 3).mean(), 4612954638040731706L);
        check.due("mean() of the same ones, backwards", Check.withReadings(7, 3, 2, 2, 1, 1).mean(), 4612954638040731705L);
        // Not in the order in which they were read.
        SundialSpans court = Make.dials(3);
        court.read(2, 7, 3);
        court.read(1, 2, 2);
        court.read(0, 1, 1);
        check.due("mean() of three that were read backwards", court.mean(), 4612954638040731706L);
        check.due("products, not quotients, are added up", Check.withReadings(5, 1, 3, 0).mean(), 4615063718147915775L);
    }

    private static void all15(Check check) {
        SundialSpans court = new SundialSpans();
        double products = 0.0;
        double weights = 0.0;
        for (int dial = 0; dial < 15; dial++) {
            court.read(court.dial(), 9999 - 700 * dial, 20 * dial);
            double weight = 1.0 / (40.0 * dial + 1.0);
            products += (9999.0 - 700.0 * dial) * weight;
            weights += weight;
        }
        mean(check, court, products / weights);
    }

    /** The product is divided by the weight again, which does not always give the middle. */
    private static void oneSpan(Check check) {
        check.due("of 7 with a doubt of 1", Check.withReadings(7, 1).mean(), 4619567317775286271L);
        check.due("of 3 with a doubt of 2", Check.withReadings(3, 2).mean(), 4613937818241073153L);
    }

    private static void noSpan(Check check) {
        check.due("without dials", new SundialSpans().mean(), 0L);
        check.due("without readings", Make.dials(15).mean(), 0L);
        check.due("without a struck one", Make.liar(1, 1).mean(), Double.doubleToLongBits(600.0));
    }
}
