/** The boundary sentences of "Promise 20: fault". */
final class Edges20FaultTest {
    static Edges edges() {
        return new Edges("Promise 20: fault")
            .at("Returns the fault of the pad", Edges20FaultTest::firstAndLastIndex)
            .at("NONE if there is none.", Edges20FaultTest::noFault);
    }

    public static void main(String[] args) {
        edges().run();
    }

    private static void firstAndLastIndex(Check check) {
        check.due("of an empty pad", new SundialSpans().fault(), 0);
        check.due("at the first character", Check.withPad("!").fault(), 0);
        check.due("behind the last character", Check.withPad("t").fault(), 1);
        check.due("at the last of 80", Check.withPad("d;".repeat(39) + "da").fault(), 79);
        check.due("behind the last of 80", Check.withPad("d;".repeat(39) + "a;").fault(), 80);
        SundialSpans court = Check.withPad("d");
        court.put('d');
        check.due("of a pad that was right, and is longer now", court.fault(), 1);
        check.due("once more", court.fault(), 1);
    }

    private static void noFault(Check check) {
        check.due("of one character", Check.withPad("a").fault(), Check.NONE);
        check.due("of 80 characters", Make.withFullPad().fault(), Check.NONE);
        SundialSpans court = Check.withPad("t");
        court.fault();
        court.put('1');
        check.due("of a pad that was too short, and is longer now", court.fault(), Check.NONE);
        check.due("the pad stays", court.count(8), 2);
        check.due("what is not possible is no fault", Check.withPad("a;t0;r99=99~999").fault(), Check.NONE);
    }
}
