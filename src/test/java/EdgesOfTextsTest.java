/** The boundary sentences of "Texts", and of the constants and headings that stand below it. */
final class EdgesOfTextsTest {
    static Edges edges() {
        return new Edges("Texts")
            .at("The pad is a text of at most 80 characters", EdgesOfTextsTest::atMost80)
            .at(", a row of orders:", EdgesOfTextsTest::rowOfOrders)
            .at("text = order { \";\" order }", EdgesOfTextsTest::ordersAndSemicolons)
            .at("order = \"d\" | \"r\" number \"=\" number [ \"~\" number ] | \"t\" number | \"a\"",
                EdgesOfTextsTest::signsOfOrders)
            .at("\"d\": dial()", EdgesOfTextsTest::dialOrders)
            .at("\"r\": read() of a dial, the time that it tells, and its doubt", EdgesOfTextsTest::readOrders)
            .at("(0, if it is left out)", EdgesOfTextsTest::doubtLeftOut)
            .at("\"t\": pass() minutes", EdgesOfTextsTest::passOrders)
            .at("\"a\": agree().", EdgesOfTextsTest::agreeOrders)
            .at("A number is 0 to 9999", EdgesOfTextsTest::numbers)
            .at("without leading zeros.", EdgesOfTextsTest::leadingZeros)
            .at("The fault is the index of the first character that cannot stand at its place when the text is read from "
                + "left to right", EdgesOfTextsTest::firstFaults)
            .at("(also of a digit by which a number would be above 9999)", EdgesOfTextsTest::digitsAbove9999)
            .at("if there is none and the text ends too early", EdgesOfTextsTest::tooEarly)
            .at("(also if it is empty), it is the length of the text.", EdgesOfTextsTest::emptyText)
            .at("The constants: `NO_SUCH = -1, BAD_VALUE = -2, BAD_TEXT = -3, TOO_MANY = -4, NOT_POSSIBLE = -5, NONE = -6`: "
                + "Error codes, and NONE: there is none.", EdgesOfTextsTest::codes)
            .at("`WIDEN = 0, OFTEN = 1`: Settings.", EdgesOfTextsTest::settings)
            .at("Ahead of the calls `of`, `best`, `end`, `overlap`, `count`, `mean`, `share` the interface says: ---- what "
                + "there is.", EdgesOfTextsTest::askingChangesNothing)
            .at("Ahead of the calls `allowing`, `fewest`, `widerIn`, `without` the interface says: ---- what if; nothing "
                + "changes", EdgesOfTextsTest::whatIfChangesNothing)
            .at("(the bound of time does not matter).", EdgesOfTextsTest::boundOfTime);
    }

    public static void main(String[] args) {
        edges().run();
    }

    private static void fault(Check check, String text, int due) {
        check.due("fault() of \"" + text + "\"", Check.withPad(text).fault(), due);
    }

    private static void fine(Check check, String... texts) {
        for (String text : texts) {
            fault(check, text, Check.NONE);
        }
    }

    private static void atMost80(Check check) {
        SundialSpans court = Make.withFullPad();
        check.due("length", court.count(8), 80);
        check.due("one character more", court.put('1'), Check.TOO_MANY);
        check.due("length then", court.count(8), 80);
        check.due("no fault", court.fault(), Check.NONE);
        check.due("79 and one character", Check.withPad("d".repeat(79)).put('d'), 80);
        check.due("73 and eight characters", Check.withPad("d".repeat(73)).put(Check.packed("dddddddd")), Check.TOO_MANY);
        check.due("72 and eight characters", Check.withPad("d".repeat(72)).put(Check.packed("dddddddd")), 80);
    }

    private static void rowOfOrders(Check check) {
        check.due("one order", Check.withPad("d").carryOut(), 1);
        SundialSpans court = Check.withReadings(600, 0);
        Check.write(court, "a;".repeat(39) + "a");
        check.due("40 orders, in 79 characters", court.carryOut(), 40);
        check.due("each of them was carried out", court.count(4), 40);
    }

    private static void ordersAndSemicolons(Check check) {
        fine(check, "d", "d;d", "a;d;a", "t0;t0", "r0=0;r0=0~0;d");
        fault(check, ";", 0);
        fault(check, ";d", 0);
        fault(check, "d;;d", 2);
        fault(check, "dd", 1);
        fault(check, "d,d", 1);
        fault(check, "t1a", 2);
        fault(check, "d;", 2);
    }

    private static void signsOfOrders(Check check) {
        fine(check, "d", "a", "t5", "r1=5", "r1=5~6");
        fault(check, "D", 0);
        fault(check, "x", 0);
        fault(check, "5", 0);
        fault(check, "d5", 1);
        fault(check, "a=", 1);
        fault(check, "t=5", 1);
        fault(check, "t5=5", 2);
        fault(check, "t5~5", 2);
        fault(check, "r=5", 1);
        fault(check, "r-1=5", 1);
        fault(check, "r1~5", 2);
        fault(check, "r1;d", 2);
        fault(check, "r1=~5", 3);
        fault(check, "r1=;", 3);
        fault(check, "r1=5=6", 4);
        fault(check, "r1=5~;", 5);
        fault(check, "r1=5~6~7", 6);
    }

    private static void dialOrders(Check check) {
        SundialSpans court = Check.withPad("d");
        check.due("carryOut()", court.carryOut(), 1);
        check.due("a dial came", court.count(1), 1);
        SundialSpans full = Make.dials(14);
        Check.write(full, "d;d;t1");
        check.due("a 15th dial comes, a 16th does not", full.carryOut(), 1);
    }

    private static void readOrders(Check check) {
        SundialSpans court = Make.dials(15);
        Check.write(court, "r0=0~0;r14=9999~300");
        check.due("carryOut()", court.carryOut(), 2);
        check.due("low end of the least reading", court.of(0, 0), 100000);
        check.due("high end of the greatest one", court.of(14, 1), 110299);
        Check.write(court, "t1;r15=0");
        check.due("no dial 15", court.carryOut(), 1);
        Check.write(court, "t1;r0=0~301");
        check.due("no doubt of 301", court.carryOut(), 1);
        Check.write(court, "r3=9~8;r4=7~6");
        check.due("of two dials", court.carryOut(), 2);
        check.due("the time that the first one tells", court.of(3, 0), 100001);
        check.due("doubt of the second one", court.of(4, 3), 6);
    }

    private static void doubtLeftOut(Check check) {
        SundialSpans court = Check.withReadings(600, 5);
        Check.write(court, "r0=500");
        court.carryOut();
        check.due("the doubt ahead is not kept", court.of(0, 3), 0);
        Check.write(court, "r0=500~9;r0=600");
        court.carryOut();
        check.due("nor is that of an order ahead", court.of(0, 3), 0);
        check.due("low end", court.of(0, 0), 100600);
        check.due("high end", court.of(0, 1), 100600);
    }

    private static void passOrders(Check check) {
        check.due("0 minutes", Check.withPad("t0;d").carryOut(), 0);
        SundialSpans court = Check.withPad("t1;t1440;t1441;t1");
        check.due("1 and 1440 minutes, but not 1441", court.carryOut(), 2);
        check.due("the time of now", court.count(0), 1441);
        SundialSpans late = new SundialSpans();
        Make.passTo(late, 99990);
        Check.write(late, "t9;t1;d");
        check.due("to 99999, but not above", late.carryOut(), 1);
        check.due("the time of now", late.count(0), 99999);
    }

    private static void agreeOrders(Check check) {
        check.due("without a span", Check.withPad("d;a;d").carryOut(), 1);
        SundialSpans court = Check.withPad("d;r0=0;a");
        check.due("with a span", court.carryOut(), 3);
        check.due("the hour", court.count(5), 100000);
        SundialSpans liar = Make.liar(2, 3);
        Check.write(liar, "a;r2=600");
        check.due("a dial that is struck by an order is read no more", liar.carryOut(), 1);
    }

    private static void numbers(Check check) {
        fine(check, "t0", "t9", "t10", "t99", "t100", "t999", "t1000", "t9999", "r9999=9999~9999", "r0=0~0");
        fault(check, "t10000", 5);
        fault(check, "t+1", 1);
        fault(check, "t-1", 1);
        fault(check, "t/", 1);
        fault(check, "t:", 1);
        fault(check, "t1.5", 2);
        check.due("9999 is told", told(9999), 109999);
        check.due("1000 is told", told(1000), 101000);
        check.due("0 is told", told(0), 100000);
    }

    private static int told(int time) {
        SundialSpans court = Check.withPad("d;r0=" + time);
        court.carryOut();
        return court.of(0, 0);
    }

    private static void leadingZeros(Check check) {
        fine(check, "t0;d", "r0=0~0", "t10", "t100", "t1001");
        fault(check, "t00", 2);
        fault(check, "t01", 2);
        fault(check, "t0000", 2);
        fault(check, "r00=1", 2);
        fault(check, "r01=1", 2);
        fault(check, "r0=01", 4);
        fault(check, "r0=0~00", 6);
    }

    private static void firstFaults(Check check) {
        fault(check, "?", 0);
        fault(check, "d?;?", 1);
        fault(check, "d;?;?", 2);
        fault(check, "r1=1~1;t1;q", 10);
        fault(check, "d;".repeat(39) + "d?", 79);
        fault(check, "d;".repeat(39) + "dd", 79);
        // Orders that can't be carried out are no fault.
        fine(check, "r15=10~301", "t0", "t9999", "a", "d;".repeat(39) + "d");
    }

    private static void digitsAbove9999(Check check) {
        fine(check, "t9999", "t1000");
        fault(check, "t10000", 5);
        fault(check, "t99990", 5);
        fault(check, "t12345678", 5);
        fault(check, "r10000=1", 5);
        fault(check, "r1=10000", 7);
        fault(check, "r1=1~10000", 9);
        fault(check, "d;t" + "9".repeat(77), 7);
    }

    private static void tooEarly(Check check) {
        String[] begun = {"r", "r1", "r1=", "r1=1~", "t", "d;", "a;", "t1;", "r1=1;", "r1=1~1;", "d;t", "d;r9999="};
        for (String text : begun) {
            fault(check, text, text.length());
            check.due("carryOut() of \"" + text + "\"", Check.withPad(text).carryOut(), Check.BAD_TEXT);
        }
        fault(check, "d;".repeat(40), 80);
        fault(check, "d;".repeat(39) + ";", 78);
        fault(check, "d;".repeat(39) + "t", 79);
        fault(check, "d;".repeat(38) + "r1=;", 79);
        fault(check, "d;".repeat(38) + "r10=", 80);
    }

    private static void emptyText(Check check) {
        SundialSpans court = new SundialSpans();
        check.due("fault() at first", court.fault(), 0);
        court.put(Check.packed("d"));
        court.wipe();
        check.due("fault() after wipe()", court.fault(), 0);
        court.put(Check.packed("d"));
        court.carryOut();
        check.due("fault() after carryOut()", court.fault(), 0);
        check.due("carryOut() of it", court.carryOut(), Check.BAD_TEXT);
    }

    private static void codes(Check check) {
        check.due("NO_SUCH", SundialSpans.NO_SUCH, -1);
        check.due("BAD_VALUE", SundialSpans.BAD_VALUE, -2);
        check.due("BAD_TEXT", SundialSpans.BAD_TEXT, -3);
        check.due("TOO_MANY", SundialSpans.TOO_MANY, -4);
        check.due("NOT_POSSIBLE", SundialSpans.NOT_POSSIBLE, -5);
        check.due("NONE", SundialSpans.NONE, -6);
    }

    private static void settings(Check check) {
        check.due("WIDEN", SundialSpans.WIDEN, 0);
        check.due("OFTEN", SundialSpans.OFTEN, 1);
        SundialSpans court = new SundialSpans();
        court.set(0, 60);
        court.set(1, 20);
        check.due("setting 0 is told by count(6)", court.count(6), 60);
        check.due("setting 1 is told by count(7)", court.count(7), 20);
    }

    /** Dial 2 is struck, dial 3 has no reading, slot 0 alone is filled, and the pad is "d;t9". */
    private static SundialSpans busy() {
        SundialSpans court = Make.liar(1, 1);
        court.save(0);
        court.dial();
        court.pass(61);
        court.read(0, 650, 7);
        court.put(Check.packed("d;t9"));
        return court;
    }

    private static void askingChangesNothing(Check check) {
        SundialSpans court = busy();
        for (int what = 0; what < 3; what++) {
            court.of(0, what);
            court.of(2, what);
            court.best(what);
            court.end(what, what);
            court.overlap(700 + what);
            court.count(what);
            court.mean();
            court.share();
        }
        check.holds("all is as before", Picture.inside(court).equals(Picture.inside(busy())));
    }

    private static void whatIfChangesNothing(Check check) {
        SundialSpans court = busy();
        for (int dial = 0; dial < 4; dial++) {
            court.allowing(dial, 0);
            court.allowing(dial, 1);
            court.fewest();
            court.widerIn(dial + 1);
            court.without(dial);
        }
        check.holds("all is as before", Picture.inside(court).equals(Picture.inside(busy())));
    }

    private static void boundOfTime(Check check) {
        SundialSpans court = new SundialSpans();
        Make.passTo(court, 99999);
        court.read(court.dial(), 100, 0);
        court.read(court.dial(), 900, 0);
        check.due("pass(1) at the end of time", court.pass(1), Check.NOT_POSSIBLE);
        check.due("widerIn(2), 200 hours above it", court.widerIn(2), 200);
        court.read(1, 102, 0);
        check.due("widerIn(2), one hour above it", court.widerIn(2), 1);
    }
}
