import java.util.List;

/** The boundary sentences of "Promise 22: undo". */
final class Edges22UndoTest {
    static Edges edges() {
        return new Edges("Promise 22: undo")
            .at("Undoes the latest change: everything", Edges22UndoTest::everything)
            .at("except the pad, the slots and the history is as it was before it.", Edges22UndoTest::exceptPadAndSlots)
            .at("A history of at most 6 states is kept", Edges22UndoTest::atMost6)
            .at("each method that is a change, and returns no error, records the state before it",
                Edges22UndoTest::recordsOnlyChanges)
            .at("(also if nothing is different then)", Edges22UndoTest::nothingIsDifferent)
            .at("when one more is recorded, the oldest one is dropped.", Edges22UndoTest::oldestIsDropped)
            .at("An order of a text records nothing by itself.", Edges22UndoTest::ordersRecordNothing)
            .at("Returns how many changes can be undone then", Edges22UndoTest::howMany)
            .at("NOT_POSSIBLE if there is none.", Edges22UndoTest::notPossible);
    }

    public static void main(String[] args) {
        edges().run();
    }

    private interface Change {
        int on(SundialSpans court);
    }

    /** Dial 2 is struck by the next agree(), slot 1 is filled, and the pad holds three orders. */
    private static SundialSpans busy() {
        SundialSpans court = Make.liar(2, 3);
        court.save(1);
        court.pass(61);
        court.dial();
        Check.write(court, "a;d;t9");
        return court;
    }

    private static void comesBack(Check check, String name, Change change) {
        SundialSpans court = busy();
        List<Integer> before = Picture.ofState(court);
        check.holds(name + " is no error", change.on(court) >= 0 || name.equals("read(3, 9, 9)"));
        check.holds(name + " changes something", !before.equals(Picture.ofState(court)));
        check.due("undo() of " + name, court.undo(), 5);
        check.holds("all is as before " + name, before.equals(Picture.ofState(court)));
    }

    private static void everything(Check check) {
        comesBack(check, "set(0, 60)", court -> court.set(0, 60));
        comesBack(check, "set(1, 1)", court -> court.set(1, 1));
        comesBack(check, "dial()", SundialSpans::dial);
        comesBack(check, "read(3, 9, 9)", court -> court.read(3, 9, 9));
        comesBack(check, "read(2, 9, 9)", court -> court.read(2, 9, 9));
        comesBack(check, "pass(60)", court -> court.pass(60));
        comesBack(check, "agree(), by which a dial is struck", SundialSpans::agree);
        comesBack(check, "carryOut()", SundialSpans::carryOut);
        comesBack(check, "restore(1)", court -> court.restore(1));
    }

    private static void exceptPadAndSlots(Check check) {
        SundialSpans court = new SundialSpans();
        court.dial();
        court.put('d');
        court.save(0);
        court.dial();
        court.wipe();
        Check.write(court, "t5");
        court.save(1);
        court.undo();
        check.due("the pad stays", court.count(8), 2);
        check.due("its orders, too", court.carryOut(), 1);
        check.due("they are carried out on the state that came back", court.count(1), 1);
        check.due("slot 1 stays", court.restore(1), 2);
        court.undo();
        court.undo();
        court.undo();
        check.due("no dial is left", court.count(1), 0);
        check.due("slot 0 stays", court.restore(0), 1);
        check.due("slot 1 stays", court.restore(1), 2);
    }

    private static void atMost6(Check check) {
        SundialSpans court = new SundialSpans();
        for (int change = 1; change <= 7; change++) {
            court.pass(1);
            check.due("states after change " + change, court.count(9), Math.min(change, 6));
        }
        for (int left = 5; left >= 0; left--) {
            check.due("undo()", court.undo(), left);
        }
        check.due("a 7th undo()", court.undo(), Check.NOT_POSSIBLE);
        check.due("the time of now", court.count(0), 1);
    }

    private static void recordsOnlyChanges(Check check) {
        SundialSpans court = busy();
        court.undo();
        court.undo();
        court.undo();
        int left = court.count(9);
        court.set(0, 61);
        court.read(9, 0, 0);
        court.read(0, 10000, 0);
        court.pass(0);
        court.restore(0);
        court.restore(2);
        court.put(Check.packed("d?"));
        court.carryOut();
        court.wipe();
        court.save(0);
        court.best(0);
        court.widerIn(2);
        court.without(0);
        check.due("errors and what is no change record nothing", court.count(9), left);
        court.dial();
        check.due("a change records one", court.count(9), left + 1);
        SundialSpans empty = Make.dials(15);
        int full = empty.count(9);
        empty.undo();
        empty.agree();
        check.due("nor does agree() without a span", empty.count(9), full - 1);
        empty.dial();
        empty.undo();
        empty.dial();
        empty.dial();
        check.due("a 16th dial() records nothing", empty.count(9), full);
        empty.undo();
        check.due("the state before the 15th one comes back", empty.count(1), 14);
    }

    private static void nothingIsDifferent(Check check) {
        SundialSpans court = new SundialSpans();
        court.set(0, 2);
        check.due("set() to the value that it has", court.count(9), 1);
        court.save(0);
        court.restore(0);
        check.due("restore() of what there is", court.count(9), 2);
        Check.write(court, "a");
        court.carryOut();
        check.due("carryOut() of nothing", court.count(9), 3);
        court.read(court.dial(), 5, 5);
        court.read(0, 5, 5);
        check.due("read() of the same", court.count(9), 6);
        court.undo();
        check.due("undo() of that leaves the reading", court.of(0, 3), 5);
    }

    private static void oldestIsDropped(Check check) {
        SundialSpans court = new SundialSpans();
        for (int minutes = 1; minutes <= 30; minutes++) {
            court.pass(minutes);
        }
        // 465 minutes have passed; the state ahead of the 25th pass(), at 300, is the oldest one.
        for (int minutes = 30; minutes >= 25; minutes--) {
            court.undo();
            check.due("the time ahead of pass(" + minutes + ")", court.count(0), minutes * (minutes - 1) / 2);
        }
        check.due("an older one is not there", court.undo(), Check.NOT_POSSIBLE);
        court.pass(7);
        court.pass(8);
        check.due("two new ones", court.count(9), 2);
        court.undo();
        check.due("the time ahead of the second one", court.count(0), 307);
        court.pass(9);
        court.undo();
        court.undo();
        check.due("the time ahead of both", court.count(0), 300);
    }

    private static void ordersRecordNothing(Check check) {
        SundialSpans court = new SundialSpans();
        Check.write(court, "t1;t1;t1;t1;t1;t1;t1;d;r0=5;a");
        court.carryOut();
        check.due("ten orders are one change", court.count(9), 1);
        check.due("undo()", court.undo(), 0);
        check.due("the time of now", court.count(0), 0);
        check.due("dials", court.count(1), 0);
    }

    private static void howMany(Check check) {
        SundialSpans court = new SundialSpans();
        court.pass(1);
        check.due("of one", court.undo(), 0);
        for (int change = 0; change < 9; change++) {
            court.pass(1);
        }
        check.due("of six", court.undo(), 5);
        check.due("as count(9) tells", court.count(9), 5);
        court.pass(1);
        check.due("of six again", court.undo(), 5);
    }

    private static void notPossible(Check check) {
        SundialSpans court = new SundialSpans();
        check.due("at first", court.undo(), Check.NOT_POSSIBLE);
        court.put('d');
        court.save(0);
        court.set(0, 61);
        check.due("after what is no change", court.undo(), Check.NOT_POSSIBLE);
        court.dial();
        court.undo();
        check.due("undo() is not undone", court.undo(), Check.NOT_POSSIBLE);
        check.due("dials", court.count(1), 0);
    }
}
