/** The boundary sentences of "Promise 15: fewest". */
final class Edges15FewestTest {
    static Edges edges() {
        return new Edges("Promise 15: fewest")
            .at("Returns the fewest liars with which there is a time that all other spans have.",
                Edges15FewestTest::aTimeOfAllOthers)
            .at("Returns how many", Edges15FewestTest::noneToAllButOne)
            .at("NONE if there is no span.", Edges15FewestTest::noSpan);
    }

    public static void main(String[] args) {
        edges().run();
    }

    private static void aTimeOfAllOthers(Check check) {
        check.due("ends that touch", Check.withReadings(600, 5, 610, 5).fewest(), 0);
        check.due("a minute apart", Check.withReadings(600, 5, 611, 5).fewest(), 1);
        // At 5 dial 2 lies, at 11 dial 0.
        check.due("it is one time for all others", Check.withReadings(5, 0, 8, 3, 11, 0, 5, 6).fewest(), 1);
        check.due("the times side by side are of two, not of all", Check.withReadings(4, 4, 2, 2, 7, 2).fewest(), 1);
    }

    private static void noneToAllButOne(Check check) {
        check.due("one span", Check.withReadings(600, 5).fewest(), 0);
        check.due("15 at one time", Make.crowd(15, 600, 0).fewest(), 0);
        check.due("15 that are apart", Make.lonely().fewest(), 14);
        check.due("one of three", Make.liar(0, 3).fewest(), 1);
        check.due("a struck one is none of them", Make.liar(3, 3).fewest(), 0);
    }

    private static void noSpan(Check check) {
        check.due("without dials", new SundialSpans().fewest(), Check.NONE);
        check.due("without readings", Make.dials(15).fewest(), Check.NONE);
    }
}
