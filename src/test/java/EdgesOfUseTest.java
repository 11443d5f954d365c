/** The boundary sentences of "SundialSpans", "What it is": how long an object is used. */
final class EdgesOfUseTest {
    static Edges edges() {
        return new Edges("What it is")
            .at("An object is used for at most 512 calls after it has been made", EdgesOfUseTest::the512thCall)
            .at("what later calls answer is free.", EdgesOfUseTest::laterCallsEnd);
    }

    public static void main(String[] args) {
        edges().run();
    }

    private static void the512thCall(Check check) {
        SundialSpans court = new SundialSpans();
        for (int call = 1; call <= 511; call++) {
            check.due("call " + call + ", pass(1)", court.pass(1), call);
        }
        check.due("call 512, count(9)", court.count(9), 6);

        SundialSpans agreeing = Check.withReadings(600, 5);
        for (int call = 3; call <= 511; call++) {
            check.due("call " + call + ", agree()", agreeing.agree(), 100600);
        }
        check.due("call 512, count(4)", agreeing.count(4), 509);

        SundialSpans writing = new SundialSpans();
        for (int call = 1; call <= 511; call += 2) {
            check.due("call " + call + ", put()", writing.put(Check.packed("d")), 1);
            check.due("call " + (call + 1) + ", wipe()", writing.wipe(), 1);
        }
    }

    /** They may answer what they like, but each one ends, and none throws. */
    private static void laterCallsEnd(Check check) {
        SundialSpans court = Check.withReadings(600, 5, 900, 5);
        for (int call = 5; call <= 5000; call++) {
            court.agree();
            court.pass(1440);
            court.put(Check.packed("t9;d;a;"));
            court.carryOut();
            court.undo();
            court.restore(call % 2);
        }
        check.holds("5000 calls ended", true);
    }
}
