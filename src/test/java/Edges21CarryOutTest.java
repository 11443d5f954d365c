/** The boundary sentences of "Promise 21: carryOut". */
final class Edges21CarryOutTest {
    static Edges edges() {
        return new Edges("Promise 21: carryOut")
            .at("Carries the orders of the pad out, one after the other", Edges21CarryOutTest::oneAfterTheOther)
            .at(", up to the first one that returns an error", Edges21CarryOutTest::upToAnError)
            .at(", and empties the pad.", Edges21CarryOutTest::emptiesThePad)
            .at("This is a change (one, with all of them", Edges21CarryOutTest::oneChange)
            .at("also if none is carried out).", Edges21CarryOutTest::noneIsCarriedOut)
            .at("Returns how many orders were carried out", Edges21CarryOutTest::howMany)
            .at("BAD_TEXT if the pad has a fault (then it stays).", Edges21CarryOutTest::badText);
    }

    public static void main(String[] args) {
        edges().run();
    }

    private static void oneAfterTheOther(Check check) {
        SundialSpans court = Check.withPad("d;t7;r0=5;t9;a;r0=8~2");
        check.due("carryOut()", court.carryOut(), 6);
        check.due("the time of now", court.count(0), 16);
        check.due("they agreed on the first reading, 9 minutes later", court.count(5), 100014);
        check.due("the second reading is of age 0", court.of(0, 2), 0);
        check.due("its doubt", court.of(0, 3), 2);
        // The last order needs what the first ones do.
        check.due("from no dial to an hour", Check.withPad("d;r0=0;a").carryOut(), 3);
    }

    private static void stops(Check check, SundialSpans court, String text, int due) {
        Check.write(court, text);
        int now = court.count(0);
        check.due("carryOut() of \"" + text + "\"", court.carryOut(), due);
        check.due("the last order, t1, is not carried out", court.count(0), now);
    }

    private static void upToAnError(Check check) {
        stops(check, new SundialSpans(), "d;r1=5;t1", 1);
        stops(check, new SundialSpans(), "d;r0=5~301;t1", 1);
        stops(check, new SundialSpans(), "d;d;t0;t1", 2);
        stops(check, new SundialSpans(), "d;t1441;t1", 1);
        stops(check, new SundialSpans(), "d;a;t1", 1);
        stops(check, Make.dials(14), "d;d;t1", 1);
        stops(check, Make.liar(2, 3), "a;r2=5;t1", 1);
        SundialSpans late = new SundialSpans();
        Make.passTo(late, 99999);
        stops(check, late, "d;t1;t1", 1);
        SundialSpans court = Check.withPad("d;r1=5;d");
        court.carryOut();
        check.due("the orders ahead of it stand, those after it are not carried out", court.count(1), 1);
        // Only an answer below 0 that is an error stops it: read() answers NONE here.
        check.due("an order that answers NONE", Check.withPad("d;r0=5;d;r1=5;t1").carryOut(), 5);
    }

    private static void emptiesThePad(Check check) {
        SundialSpans court = Check.withPad("d;d");
        court.carryOut();
        check.due("after all orders", court.count(8), 0);
        Check.write(court, "d;t0;d");
        court.carryOut();
        check.due("after an error", court.count(8), 0);
        Check.write(court, "t0;d");
        court.carryOut();
        check.due("after none", court.count(8), 0);
        check.due("fault() of it", court.fault(), 0);
        SundialSpans full = Make.withFullPad();
        full.carryOut();
        check.due("after 80 characters", full.count(8), 0);
    }

    private static void oneChange(Check check) {
        SundialSpans court = Check.withPad("d;r0=5;t9;a;d;t1;a");
        check.due("seven orders", court.carryOut(), 7);
        check.due("changes", court.count(9), 1);
        check.due("undo()", court.undo(), 0);
        check.due("dials then", court.count(1), 0);
        check.due("the time of now then", court.count(0), 0);
        check.due("they never agreed", court.count(5), Check.NONE);
        check.due("the pad does not come back", court.count(8), 0);
        SundialSpans full = new SundialSpans();
        for (int change = 0; change < 5; change++) {
            full.pass(1);
        }
        Check.write(full, "t1;t1;t1;t1;t1;t1;t1;t1");
        full.carryOut();
        check.due("it drops no state as the sixth one", full.count(9), 6);
        check.due("undo() of it", full.undo(), 5);
        check.due("the time of now then", full.count(0), 5);
        check.due("the first state is there still", full.undo() + full.undo() + full.undo() + full.undo() + full.undo(), 10);
        check.due("the time of now then", full.count(0), 0);
    }

    private static void noneIsCarriedOut(Check check) {
        SundialSpans court = new SundialSpans();
        court.pass(5);
        Check.write(court, "a;d");
        check.due("carryOut()", court.carryOut(), 0);
        check.due("changes", court.count(9), 2);
        check.due("undo() of it", court.undo(), 1);
        check.due("the time of now", court.count(0), 5);
        check.due("undo() of the change ahead", court.undo(), 0);
    }

    private static void howMany(Check check) {
        check.due("none", Check.withPad("a").carryOut(), 0);
        check.due("one", Check.withPad("d").carryOut(), 1);
        check.due("15 of 40", Check.withPad("d;".repeat(39) + "d").carryOut(), 15);
        SundialSpans court = Check.withReadings(600, 5);
        Check.write(court, "a;".repeat(39) + "a");
        check.due("40 of 40", court.carryOut(), 40);
        Check.write(court, "t1440;".repeat(13) + "d");
        check.due("14 of 14", court.carryOut(), 14);
    }

    private static void badText(Check check) {
        String[] faulty = {"x", "d;", "d;x", ";", "t01", "t10000", "d;r0=", "d;d;d;d?"};
        for (String text : faulty) {
            SundialSpans court = Check.withPad(text);
            check.due("carryOut() of \"" + text + "\"", court.carryOut(), Check.BAD_TEXT);
            check.due("the length of the pad", court.count(8), text.length());
            check.due("dials", court.count(1), 0);
            check.due("changes", court.count(9), 0);
        }
        check.due("of an empty pad", new SundialSpans().carryOut(), Check.BAD_TEXT);
        SundialSpans court = Check.withPad("d;t");
        court.carryOut();
        court.put('5');
        check.due("it stays, and can be ended", court.carryOut(), 2);
        check.due("of 80 characters that end too early", Check.withPad("d;".repeat(40)).carryOut(), Check.BAD_TEXT);
    }
}
