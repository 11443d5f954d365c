/** The boundary sentences of "Promise 13: share". */
final class Edges13ShareTest {
    static Edges edges() {
        return new Edges("Promise 13: share")
            .at("Returns the share of honest dials: the bits, as Float.floatToIntBits tells them, of how many spans the "
                + "best overlap has, as a float, divided by how many spans there are, as a float.",
                Edges13ShareTest::leastAndGreatest)
            .at("Returns the bits (of 0.0f, if there is no span).", Edges13ShareTest::noSpan);
    }

    public static void main(String[] args) {
        edges().run();
    }

    private static void leastAndGreatest(Check check) {
        check.due("1 of 1", Check.withReadings(600, 0).share(), 1065353216);
        check.due("15 of 15", Make.crowd(15, 600, 0).share(), 1065353216);
        check.due("1 of 15", Make.lonely().share(), 1032358025);
        check.due("2 of 3, as a quotient that is cut", Make.liar(0, 3).share(), 1059760811);
        check.due("1 of 2, side by side", Check.withReadings(5, 0, 6, 0).share(), 1056964608);
        check.due("1 of 3, though all are side by side", Check.withReadings(5, 0, 6, 0, 7, 0).share(), 1051372203);
        SundialSpans all = Make.crowd(14, 600, 0);
        all.read(all.dial(), 700, 0);
        check.due("14 of 15", all.share(), 1064234735);
        for (int spans = 1; spans <= 15; spans++) {
            SundialSpans court = Make.crowd(1, 600, 0);
            for (int dial = 1; dial < spans; dial++) {
                court.read(court.dial(), 600 + 2 * dial, 0);
            }
            check.due("1 of " + spans, court.share(), Float.floatToIntBits(1.0f / (float) spans));
        }
    }

    private static void noSpan(Check check) {
        check.due("without dials", new SundialSpans().share(), 0);
        check.due("without readings", Make.dials(15).share(), 0);
        check.due("a struck one is not counted", Make.liar(1, 1).share(), 1065353216);
    }
}
