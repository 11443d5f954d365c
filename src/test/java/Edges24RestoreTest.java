/** The boundary sentences of "Promise 24: restore". */
final class Edges24RestoreTest {
    static Edges edges() {
        return new Edges("Promise 24: restore")
            .at("Restores what was saved last in a slot", Edges24RestoreTest::savedLast)
            .at(", which keeps it.", Edges24RestoreTest::slotKeepsIt)
            .at("This is a change.", Edges24RestoreTest::isAChange)
            .at("`slot`: 0 or 1", Edges24RestoreTest::twoSlots)
            .at("Returns how many dials there are then", Edges24RestoreTest::noneToAll)
            .at("BAD_VALUE if there is no such slot", Edges24RestoreTest::noSuchSlot)
            .at("NOT_POSSIBLE if nothing was saved in it.", Edges24RestoreTest::nothingSaved);
    }

    public static void main(String[] args) {
        edges().run();
    }

    private static void savedLast(Check check) {
        SundialSpans court = new SundialSpans();
        court.save(0);
        court.dial();
        court.save(0);
        court.dial();
        check.due("the latter of two", court.restore(0), 1);
        court.undo();
        court.undo();
        check.due("undo() does not bring the former back", court.restore(0), 1);
    }

    private static void slotKeepsIt(Check check) {
        SundialSpans court = Check.withReadings(600, 5);
        court.save(1);
        for (int round = 0; round < 5; round++) {
            court.read(0, 9, 9);
            court.dial();
            court.pass(60);
            court.agree();
            check.due("restore(1)", court.restore(1), 1);
            check.due("low end", court.of(0, 0), 100595);
            check.due("the time of now", court.count(0), 0);
            check.due("how often they agreed", court.count(4), 0);
        }
    }

    private static void isAChange(Check check) {
        SundialSpans court = Make.dials(6);
        court.save(0);
        court.dial();
        court.restore(0);
        check.due("a full history stays full", court.count(9), 6);
        check.due("undo() of it", court.undo(), 5);
        check.due("dials", court.count(1), 7);
        court.save(0);
        court.restore(0);
        check.due("the same state is a change, too", court.count(9), 6);
        court.undo();
        court.restore(1);
        court.restore(2);
        check.due("a refused one is none", court.count(9), 5);
        SundialSpans fresh = new SundialSpans();
        fresh.save(0);
        fresh.restore(0);
        check.due("the first change", fresh.count(9), 1);
    }

    private static void twoSlots(Check check) {
        SundialSpans court = Make.dials(3);
        court.save(0);
        court.dial();
        court.save(1);
        check.due("slot 0", court.restore(0), 3);
        check.due("slot 1", court.restore(1), 4);
        check.due("slot 2", court.restore(2), Check.BAD_VALUE);
        check.due("slot -1", court.restore(-1), Check.BAD_VALUE);
    }

    private static void noneToAll(Check check) {
        SundialSpans court = new SundialSpans();
        court.save(0);
        for (int dial = 0; dial < 15; dial++) {
            court.dial();
        }
        court.save(1);
        check.due("none", court.restore(0), 0);
        check.due("the first dial is not there", court.of(0, 0), Check.NO_SUCH);
        check.due("15", court.restore(1), 15);
        check.due("the last dial is there", court.of(14, 0), Check.NONE);
        check.due("there is no room for a 16th", court.dial(), Check.TOO_MANY);
    }

    private static void noSuchSlot(Check check) {
        SundialSpans court = Make.dials(2);
        court.save(0);
        court.save(1);
        for (int slot : new int[] {-1, 2, Make.LEAST, Make.MOST}) {
            check.due("restore(" + slot + ")", court.restore(slot), Check.BAD_VALUE);
            check.due("restore(" + slot + ") with nothing saved", new SundialSpans().restore(slot), Check.BAD_VALUE);
        }
    }

    private static void nothingSaved(Check check) {
        SundialSpans court = Make.dials(2);
        check.due("restore(0)", court.restore(0), Check.NOT_POSSIBLE);
        check.due("restore(1)", court.restore(1), Check.NOT_POSSIBLE);
        court.save(0);
        check.due("the other slot is filled, not slot 1", court.restore(1), Check.NOT_POSSIBLE);
        check.due("slot 0", court.restore(0), 2);
        court.undo();
        court.save(1);
        check.due("slot 1", court.restore(1), 2);
        SundialSpans other = new SundialSpans();
        check.due("slots are of one object alone", other.restore(0), Check.NOT_POSSIBLE);
    }
}
