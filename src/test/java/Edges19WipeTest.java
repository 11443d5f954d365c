/** The boundary sentence of "Promise 19: wipe". */
final class Edges19WipeTest {
    static Edges edges() {
        return new Edges("Promise 19: wipe")
            .at("Empties the pad", Edges19WipeTest::empties)
            .at(", and returns the length that it had.", Edges19WipeTest::emptyAndFull);
    }

    public static void main(String[] args) {
        edges().run();
    }

    private static void empties(Check check) {
        SundialSpans court = Make.withFullPad();
        court.wipe();
        check.due("length", court.count(8), 0);
        check.due("fault()", court.fault(), 0);
        check.due("carryOut()", court.carryOut(), Check.BAD_TEXT);
        check.due("it is no change", court.undo(), Check.NOT_POSSIBLE);
        check.due("80 characters have room again", Check.write(court, "d".repeat(80)), 80);
    }

    private static void emptyAndFull(Check check) {
        SundialSpans court = new SundialSpans();
        check.due("of an empty one", court.wipe(), 0);
        court.put('d');
        check.due("of one character", court.wipe(), 1);
        check.due("once more", court.wipe(), 0);
        check.due("of a full one", Make.withFullPad().wipe(), 80);
    }
}
