/** Promise 24: restore. */
final class Promise24RestoreTest {
    public static void main(String[] args) {
        Check check = new Check("restore");
        SundialSpans court = new SundialSpans();
        for (int slot : new int[] {-1, 2, Integer.MAX_VALUE, Integer.MIN_VALUE}) {
            check.due("restore(" + slot + ")", court.restore(slot), Check.BAD_VALUE);
        }
        check.due("restore(0) of nothing", court.restore(0), Check.NOT_POSSIBLE);
        check.due("restore(1) of nothing", court.restore(1), Check.NOT_POSSIBLE);
        check.due("no change is recorded", court.count(9), 0);
        everythingComesBack(check);
        padAndHistoryStay(check);
        check.end();
    }

    private static void everythingComesBack(Check check) {
        SundialSpans court = Check.withReadings(100, 3, 104, 4, 500, 0);
        court.set(SundialSpans.WIDEN, 9);
        court.set(SundialSpans.OFTEN, 2);
        court.agree();
        court.pass(60);
        court.save(1);
        check.due("restore(0), the other slot", court.restore(0), Check.NOT_POSSIBLE);
        court.agree();
        court.dial();
        court.read(3, 1, 1);
        court.read(0, 1, 1);
        court.pass(77);
        court.set(SundialSpans.WIDEN, 0);
        court.set(SundialSpans.OFTEN, 20);
        for (int round = 0; round < 2; round++) {
            check.due("restore(1)", court.restore(1), 3);
            int[] numbers = {60, 3, 7, 0, 1, 100101, 9, 2};
            for (int what = 0; what < numbers.length; what++) {
                check.due("count(" + what + ") then", court.count(what), numbers[what]);
            }
            int[][] dials = {
                {100148, 100172, 60, 3, 0, 0, 0}, {100151, 100177, 60, 4, 0, 0, 0}, {100551, 100569, 60, 0, 1, 1, 0}};
            for (int dial = 0; dial < dials.length; dial++) {
                for (int what = 0; what < 7; what++) {
                    check.due("of(" + dial + ", " + what + ") then", court.of(dial, what), dials[dial][what]);
                }
            }
            check.due("the slot keeps it", court.dial(), 3);
            check.due("a dial that comes then has no reading", court.of(3, 2), Check.NONE);
            court.agree();
            court.agree();
        }
    }

    private static void padAndHistoryStay(Check check) {
        SundialSpans court = new SundialSpans();
        court.save(0);
        court.dial();
        court.dial();
        court.put(Check.packed("d;d"));
        check.due("restore(0)", court.restore(0), 0);
        check.due("the pad stays", court.count(8), 3);
        check.due("it is a change", court.count(9), 3);
        check.due("undo()", court.undo(), 2);
        check.due("dials then", court.count(1), 2);
        check.due("undo() again", court.undo(), 1);
        check.due("dials then", court.count(1), 1);
        check.due("restore(0) once more", court.restore(0), 0);
        check.due("dials then", court.count(1), 0);
    }
}
