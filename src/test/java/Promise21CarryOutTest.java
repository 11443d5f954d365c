/** Promise 21: carryOut. */
final class Promise21CarryOutTest {
    public static void main(String[] args) {
        Check check = new Check("carryOut");
        allOrders(check);
        ordersThatFail(check);
        badText(check);
        oneChange(check);
        manyOrders(check);
        check.end();
    }

    private static void allOrders(Check check) {
        SundialSpans court = Check.withPad("d;d;r0=600~20;r1=605;t90;a");
        check.due("carryOut()", court.carryOut(), 6);
        check.due("length of the pad then", court.count(8), 0);
        check.due("dials", court.count(1), 2);
        check.due("time of now", court.count(0), 90);
        check.due("doubt that is told", court.of(0, 3), 20);
        check.due("doubt that is left out", court.of(1, 3), 0);
        check.due("age", court.of(0, 2), 90);
        check.due("low end", court.of(1, 0), 100693);
        check.due("times agreed", court.count(4), 1);
        check.due("latest hour", court.count(5), 100695);
        Check.write(court, "r1=1~300;r0=2");
        check.due("carryOut() of readings", court.carryOut(), 2);
        check.due("the doubt of the order before is not taken", court.of(0, 3), 0);
    }

    private static void ordersThatFail(Check check) {
        check.due("a dial that is not there", Check.withPad("d;r1=5;d").carryOut(), 1);
        check.due("a doubt out of range", Check.withPad("d;r0=5~301;d").carryOut(), 1);
        check.due("the greatest doubt", Check.withPad("d;r0=9999~300;d").carryOut(), 3);
        check.due("0 minutes", Check.withPad("d;t0").carryOut(), 1);
        check.due("1440 minutes", Check.withPad("d;t1440").carryOut(), 2);
        check.due("1441 minutes", Check.withPad("d;t1441").carryOut(), 1);
        check.due("no span", Check.withPad("d;a;d").carryOut(), 1);
        check.due("the first order fails", Check.withPad("a;d").carryOut(), 0);
        SundialSpans court = Check.withPad("d;a;d");
        court.carryOut();
        check.due("what came ahead stands", court.count(1), 1);
        check.due("the pad is empty", court.count(8), 0);

        SundialSpans struck = Check.withReadings(100, 0, 100, 0, 500, 0);
        Check.write(struck, "a;a;a;t5;r2=5;t5");
        check.due("a dial that is struck by then", struck.carryOut(), 4);
        check.due("the time of now", struck.count(0), 5);
    }

    private static void badText(Check check) {
        SundialSpans court = new SundialSpans();
        check.due("carryOut() of nothing", court.carryOut(), Check.BAD_TEXT);
        Check.write(court, "d;d;t01");
        check.due("carryOut() with a fault", court.carryOut(), Check.BAD_TEXT);
        check.due("the pad stays", court.count(8), 7);
        check.due("nothing is carried out", court.count(1), 0);
        check.due("no change is recorded", court.count(9), 0);
    }

    private static void oneChange(Check check) {
        SundialSpans court = Check.withPad("d;d;d");
        court.carryOut();
        check.due("one change", court.count(9), 1);
        Check.write(court, "a");
        check.due("none is carried out", court.carryOut(), 0);
        check.due("that is a change, too", court.count(9), 2);
        check.due("undo() of that", court.undo(), 1);
        check.due("dials", court.count(1), 3);
        check.due("undo() of all orders", court.undo(), 0);
        check.due("dials", court.count(1), 0);
        check.due("the pad is not brought back", court.count(8), 0);
    }

    private static void manyOrders(Check check) {
        SundialSpans court = Check.withPad("d;".repeat(39) + "d");
        check.due("40 orders for 15 dials", court.carryOut(), 15);
        Check.write(court, "t1;".repeat(26) + "t1");
        check.due("27 orders", court.carryOut(), 27);
        Check.write(court, "r14=7;t1;".repeat(7) + "r0=7;a");
        check.due("readings in a row", court.carryOut(), 16);
        Check.write(court, "a;".repeat(39) + "a");
        check.due("40 orders", court.carryOut(), 40);
        check.due("times agreed", court.count(4), 41);
        check.due("changes", court.count(9), 4);
    }
}
