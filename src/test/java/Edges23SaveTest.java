/** The boundary sentences of "Promise 23: save". */
final class Edges23SaveTest {
    static Edges edges() {
        return new Edges("Promise 23: save")
            .at("Saves everything", Edges23SaveTest::everything)
            .at("except the pad, the history and the slots in a slot", Edges23SaveTest::exceptPadHistoryAndSlots)
            .at(", and overwrites what was saved there.", Edges23SaveTest::overwrites)
            .at("`slot`: 0 or 1", Edges23SaveTest::twoSlots)
            .at("Returns how many dials there are", Edges23SaveTest::noneToAll)
            .at("BAD_VALUE if there is no such slot.", Edges23SaveTest::noSuchSlot);
    }

    public static void main(String[] args) {
        edges().run();
    }

    /** Dial 2 is struck by the next lie, dial 3 has no reading. */
    private static SundialSpans busy() {
        SundialSpans court = Make.liar(2, 3);
        court.set(SundialSpans.WIDEN, 20);
        court.dial();
        court.pass(61);
        return court;
    }

    private static void everything(Check check) {
        SundialSpans court = busy();
        SundialSpans other = busy();
        court.save(1);
        court.agree();
        check.due("a dial is struck since then", court.count(3), 4);
        court.read(0, 9999, 300);
        court.read(3, 1, 1);
        court.dial();
        court.set(SundialSpans.WIDEN, 0);
        court.set(SundialSpans.OFTEN, 20);
        court.pass(1440);
        court.restore(1);
        check.holds("all is as it was", Picture.ofState(court).equals(Picture.ofState(other)));
        SundialSpans full = Make.crowd(15, 9999, 300);
        full.save(0);
        for (int dial = 0; dial < 15; dial++) {
            full.read(dial, 5, 5);
        }
        full.restore(0);
        for (int dial = 0; dial < 15; dial++) {
            check.due("doubt of dial " + dial, full.of(dial, 3), 300);
        }
    }

    private static void exceptPadHistoryAndSlots(Check check) {
        SundialSpans court = Make.dials(3);
        court.put('d');
        court.save(0);
        court.wipe();
        Check.write(court, "t5;t5");
        court.undo();
        court.save(1);
        court.dial();
        court.dial();
        check.due("restore(0)", court.restore(0), 3);
        check.due("the pad is not from the slot", court.count(8), 5);
        check.due("the history is not from the slot", court.count(9), 5);
        check.due("slot 1 is not from the slot", court.restore(1), 2);
        check.due("save() is no change", saveOnly().count(9), 0);
    }

    private static SundialSpans saveOnly() {
        SundialSpans court = new SundialSpans();
        court.save(0);
        court.save(1);
        return court;
    }

    private static void overwrites(Check check) {
        SundialSpans court = Make.dials(15);
        court.save(0);
        court.save(1);
        court.undo();
        court.save(0);
        check.due("slot 0 has 14 dials", court.restore(0), 14);
        check.due("slot 1 has 15 still", court.restore(1), 15);
        court.save(0);
        check.due("slot 0 has 15 again", court.restore(0), 15);
    }

    private static void twoSlots(Check check) {
        SundialSpans court = new SundialSpans();
        check.due("slot 0", court.save(0), 0);
        court.dial();
        check.due("slot 1", court.save(1), 1);
        check.due("slot 2", court.save(2), Check.BAD_VALUE);
        check.due("slot -1", court.save(-1), Check.BAD_VALUE);
        court.dial();
        check.due("slot 0 keeps its own", court.restore(0), 0);
        check.due("slot 1 keeps its own", court.restore(1), 1);
    }

    private static void noneToAll(Check check) {
        check.due("no dial", new SundialSpans().save(0), 0);
        check.due("15 dials", Make.dials(15).save(1), 15);
        check.due("with a struck one", Make.liar(1, 1).save(0), 3);
    }

    private static void noSuchSlot(Check check) {
        SundialSpans court = Make.dials(2);
        for (int slot : new int[] {-1, 2, Make.LEAST, Make.MOST}) {
            check.due("save(" + slot + ")", court.save(slot), Check.BAD_VALUE);
        }
        check.due("nothing is saved by that in slot 0", court.restore(0), Check.NOT_POSSIBLE);
        check.due("nor in slot 1", court.restore(1), Check.NOT_POSSIBLE);
    }
}
