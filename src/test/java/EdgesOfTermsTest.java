/** The boundary sentences of "Terms", the paragraph CONVENTIONS. */
final class EdgesOfTermsTest {
    static Edges edges() {
        return new Edges("Terms")
            .at("A method that fails returns one of the error codes NO_SUCH (-1), BAD_VALUE (-2), BAD_TEXT (-3), "
                + "TOO_MANY (-4) and NOT_POSSIBLE (-5)", EdgesOfTermsTest::errorCodes)
            .at("it names its errors in the order in which they are checked, and the first one that applies is returned.",
                EdgesOfTermsTest::firstError)
            .at("A call that returns an error changes nothing.", EdgesOfTermsTest::refusedCalls)
            .at("A call that returns an error changes nothing.", EdgesOfTermsTest::refusedCallsOfFullAndEmptyObjects)
            .at("NONE (-6) is not an error", EdgesOfTermsTest::noneIsNoError)
            .at("it is returned only if no error applies.", EdgesOfTermsTest::errorsAheadOfNone)
            .at("Everything is numbered from 0.", EdgesOfTermsTest::numberedFrom0)
            .at("Times are told in minutes; they are not left over by a day.", EdgesOfTermsTest::noDayWrapsAround)
            .at("Divisions are rounded down (also of numbers below 0).", EdgesOfTermsTest::roundedDown)
            .at("Sets of dials are bit masks.", EdgesOfTermsTest::bitMasks);
    }

    public static void main(String[] args) {
        edges().run();
    }

    private static void errorCodes(Check check) {
        SundialSpans court = new SundialSpans();
        check.due("NO_SUCH of of(0, 0) without dials", court.of(0, 0), -1);
        check.due("BAD_VALUE of pass(0)", court.pass(0), -2);
        check.due("BAD_TEXT of carryOut() of an empty pad", court.carryOut(), -3);
        check.due("TOO_MANY of a 16th dial()", Make.dials(15).dial(), -4);
        check.due("NOT_POSSIBLE of undo() of nothing", court.undo(), -5);
    }

    private static void firstError(Check check) {
        SundialSpans empty = new SundialSpans();
        check.due("read() without the dial, with a wrong time", empty.read(0, -1, 0), Check.NO_SUCH);
        check.due("of() without the dial, with a wrong what", empty.of(0, 7), Check.NO_SUCH);
        check.due("end() without the end, with a wrong what", empty.end(0, 3), Check.NO_SUCH);
        check.due("restore() of a wrong slot, with nothing saved", empty.restore(2), Check.BAD_VALUE);

        SundialSpans struck = Make.liar(1, 1);
        check.due("read() of a struck dial, with a wrong doubt", struck.read(2, 600, 301), Check.BAD_VALUE);

        SundialSpans late = new SundialSpans();
        Make.passTo(late, 99999);
        check.due("pass() of too many minutes at the end of time", late.pass(1441), Check.BAD_VALUE);

        SundialSpans full = Make.withFullPad();
        check.due("put() of a wrong code to a full pad", full.put(32), Check.BAD_VALUE);
        check.due("put() of nothing to a full pad", full.put(0), Check.BAD_VALUE);
    }

    private interface Call {
        int on(SundialSpans court);
    }

    /** Dial 2 is struck, slot 1 alone is filled, the history is full, and the pad is "d;t9". */
    private static SundialSpans busy() {
        SundialSpans court = Make.liar(1, 1);
        court.pass(61);
        court.read(0, 650, 7);
        court.save(1);
        court.set(SundialSpans.WIDEN, 9);
        court.set(SundialSpans.OFTEN, 4);
        court.pass(60);
        court.agree();
        court.put(Check.packed("d;t9"));
        return court;
    }

    private static void refused(Check check, String name, int error, Call call) {
        SundialSpans court = busy();
        check.due(name, call.on(court), error);
        check.holds(name + " changes nothing", Picture.inside(court).equals(Picture.inside(busy())));
    }

    private static void refusedCalls(Check check) {
        refused(check, "set(2, 1)", Check.BAD_VALUE, court -> court.set(2, 1));
        refused(check, "set(0, 61)", Check.BAD_VALUE, court -> court.set(0, 61));
        refused(check, "set(1, 0)", Check.BAD_VALUE, court -> court.set(1, 0));
        refused(check, "read(3, 1, 1)", Check.NO_SUCH, court -> court.read(3, 1, 1));
        refused(check, "read(0, 10000, 1)", Check.BAD_VALUE, court -> court.read(0, 10000, 1));
        refused(check, "read(0, 1, 301)", Check.BAD_VALUE, court -> court.read(0, 1, 301));
        refused(check, "read(2, 1, 1)", Check.NOT_POSSIBLE, court -> court.read(2, 1, 1));
        refused(check, "pass(0)", Check.BAD_VALUE, court -> court.pass(0));
        refused(check, "pass(1441)", Check.BAD_VALUE, court -> court.pass(1441));
        refused(check, "of(3, 0)", Check.NO_SUCH, court -> court.of(3, 0));
        refused(check, "of(0, 7)", Check.BAD_VALUE, court -> court.of(0, 7));
        refused(check, "best(5)", Check.BAD_VALUE, court -> court.best(5));
        refused(check, "end(4, 0)", Check.NO_SUCH, court -> court.end(4, 0));
        refused(check, "end(0, 3)", Check.BAD_VALUE, court -> court.end(0, 3));
        refused(check, "overlap(300000)", Check.BAD_VALUE, court -> court.overlap(300000));
        refused(check, "count(10)", Check.BAD_VALUE, court -> court.count(10));
        refused(check, "allowing(15, 0)", Check.BAD_VALUE, court -> court.allowing(15, 0));
        refused(check, "widerIn(16)", Check.BAD_VALUE, court -> court.widerIn(16));
        refused(check, "without(3)", Check.NO_SUCH, court -> court.without(3));
        refused(check, "put(0)", Check.BAD_VALUE, court -> court.put(0));
        refused(check, "put() of a wrong code behind right ones", Check.BAD_VALUE, court -> court.put(0x3B3B20));
        refused(check, "save(2)", Check.BAD_VALUE, court -> court.save(2));
        refused(check, "restore(2)", Check.BAD_VALUE, court -> court.restore(2));
        refused(check, "restore(0)", Check.NOT_POSSIBLE, court -> court.restore(0));
    }

    private static void refusedCallsOfFullAndEmptyObjects(Check check) {
        same(check, "dial()", Check.TOO_MANY, Make.dials(15), Make.dials(15), SundialSpans::dial);
        same(check, "agree()", Check.NOT_POSSIBLE, Make.dials(2), Make.dials(2), SundialSpans::agree);
        same(check, "carryOut()", Check.BAD_TEXT, Check.withPad("d;t9;"), Check.withPad("d;t9;"), SundialSpans::carryOut);
        same(check, "put()", Check.TOO_MANY, Make.withFullPad(), Make.withFullPad(), court -> court.put(';'));
        String almostFull = "d".repeat(79);
        same(check, "put() of two", Check.TOO_MANY, Check.withPad(almostFull), Check.withPad(almostFull),
            court -> court.put(0x6464));
        same(check, "undo()", Check.NOT_POSSIBLE, new SundialSpans(), new SundialSpans(), SundialSpans::undo);
        SundialSpans late = new SundialSpans();
        SundialSpans other = new SundialSpans();
        Make.passTo(late, 99990);
        Make.passTo(other, 99990);
        same(check, "pass(10)", Check.NOT_POSSIBLE, late, other, court -> court.pass(10));
    }

    private static void same(Check check, String name, int error, SundialSpans court, SundialSpans other, Call call) {
        check.due(name, call.on(court), error);
        check.holds(name + " changes nothing", Picture.inside(court).equals(Picture.inside(other)));
    }

    private static void noneIsNoError(Check check) {
        SundialSpans court = Make.dials(1);
        check.due("read() of a dial without a reading", court.read(0, 5, 5), -6);
        check.due("it is read then", court.of(0, 3), 5);
        check.due("that is a change", court.count(9), 2);
        check.due("undo()", court.undo(), 1);
        check.due("it has no reading then", court.of(0, 3), -6);
        Check.write(court, "r0=7;d;d");
        check.due("an order that answers NONE stops no text", court.carryOut(), 3);
    }

    private static void errorsAheadOfNone(Check check) {
        SundialSpans court = Make.dials(1);
        check.due("of(0, 0)", court.of(0, 0), Check.NONE);
        check.due("of(0, 7) without a reading", court.of(0, 7), Check.BAD_VALUE);
        check.due("of(1, 0) without the dial", court.of(1, 0), Check.NO_SUCH);
        check.due("best(5) without a span", court.best(5), Check.BAD_VALUE);
        check.due("best(-1) without a span", court.best(-1), Check.BAD_VALUE);
        check.due("allowing(15, 0) without a span", court.allowing(15, 0), Check.BAD_VALUE);
        check.due("allowing(0, 2) without a span", court.allowing(0, 2), Check.BAD_VALUE);
        check.due("widerIn(16) without a span", court.widerIn(16), Check.BAD_VALUE);
        check.due("widerIn(0) without a span", court.widerIn(0), Check.BAD_VALUE);
        check.due("without(1) without a span", court.without(1), Check.NO_SUCH);
        check.due("read(0, -1, 0) without a reading ahead", court.read(0, -1, 0), Check.BAD_VALUE);
        SundialSpans faulty = Check.withPad("x");
        check.due("fault() of the first character is 0, not NONE", faulty.fault(), 0);
    }

    private static void numberedFrom0(Check check) {
        SundialSpans court = new SundialSpans();
        check.due("the first dial", court.dial(), 0);
        check.due("the second dial", court.dial(), 1);
        court.read(0, 600, 0);
        check.due("of() of the first dial", court.of(0, 0), 100600);
        check.due("of() of no dial", court.of(2, 0), Check.NO_SUCH);
        check.due("the first end", court.end(0, 0), 100600);
        check.due("the last end", court.end(1, 2), 1);
        check.due("the first slot", court.save(0), 2);
        check.due("the second slot", court.save(1), 2);
        check.due("the first setting", court.set(0, 5), 2);
        check.due("the second setting", court.set(1, 5), 3);
        court.put(Check.packed("?"));
        check.due("the first character", court.fault(), 0);
    }

    private static void noDayWrapsAround(Check check) {
        SundialSpans court = Check.withReadings(1439, 0, 1440, 0, 9999, 0);
        check.due("a dial that tells a day", court.of(1, 0), 101440);
        check.due("a dial that tells 9999", court.of(2, 0), 109999);
        check.due("a day passes", court.pass(1440), 1440);
        check.due("a minute more", court.pass(1), 1441);
        court.set(SundialSpans.WIDEN, 0);
        check.due("the span is a day and a minute later", court.of(0, 0), 100000 + 1439 + 1441);
        check.due("its age", court.of(0, 2), 1441);
        check.due("the hour", court.agree(), 100000 + 1439 + 1441);
        check.due("no span has it a day ahead", court.overlap(1439), 0);
    }

    /**
     * No call divides a number below 0: ages are not below it, and a low and a high end together never are, as the
     * middle of each span is what the dial told and an age. So an odd sum of a low end below 0 and a high end stands
     * for them.
     */
    private static void roundedDown(Check check) {
        check.due("the hour of 5 to 6", Check.withReadings(5, 0, 6, 0).best(3), 100005);
        check.due("the hour of -299 to 300", Check.withReadings(0, 300, 1, 300).best(3), 100000);
        check.due("the hour of -298 to 300", Check.withReadings(0, 300, 2, 300).best(3), 100001);
        check.due("the hour of -297 to 300", Check.withReadings(0, 300, 3, 300).best(3), 100001);
        check.due("the hour without a dial", Check.withReadings(5, 0, 6, 0, 900, 0).without(2), 100005);
        SundialSpans court = Check.withReadings(100, 0);
        court.pass(59);
        check.due("59 / 60 is 0", court.of(0, 1), 100159);
        court.pass(60);
        check.due("119 / 60 is 1", court.of(0, 1), 100221);
    }

    private static void bitMasks(Check check) {
        SundialSpans court = Make.dials(15);
        check.due("the set of none", court.count(2), 0);
        court.read(14, 100, 0);
        check.due("the set of dial 14", court.count(2), 1 << 14);
        check.due("dial 14 at the hour", court.best(4), 1 << 14);
        court.read(0, 100, 0);
        check.due("the set of dials 0 and 14", court.count(2), 1 + (1 << 14));
        SundialSpans all = Make.crowd(15, 100, 0);
        check.due("the set of all", all.count(2), 32767);
        check.due("all at the hour", all.best(4), 32767);
        all.read(14, 900, 0);
        all.set(SundialSpans.OFTEN, 1);
        all.agree();
        check.due("dial 14 is struck", all.count(3), 1 << 14);
        check.due("the others have spans", all.count(2), 32767 >> 1);
    }
}
