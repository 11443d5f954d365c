/** Promise 23: save. */
final class Promise23SaveTest {
    public static void main(String[] args) {
        Check check = new Check("save");
        SundialSpans court = new SundialSpans();
        for (int slot : new int[] {-1, 2, Integer.MAX_VALUE, Integer.MIN_VALUE}) {
            check.due("save(" + slot + ")", court.save(slot), Check.BAD_VALUE);
        }
        check.due("save(0) without dials", court.save(0), 0);
        court.dial();
        court.dial();
        check.due("save(1)", court.save(1), 2);
        court.dial();
        check.due("the slots are two", court.restore(0), 0);
        check.due("the other one", court.restore(1), 2);
        court.dial();
        check.due("save(0) over what was saved", court.save(0), 3);
        court.dial();
        check.due("restore(0)", court.restore(0), 3);
        check.due("restore(1) is as it was", court.restore(1), 2);

        SundialSpans quiet = new SundialSpans();
        quiet.dial();
        quiet.put(Check.packed("dd"));
        quiet.save(0);
        check.due("save() is no change", quiet.count(9), 1);
        check.due("save() leaves the pad", quiet.count(8), 2);
        check.end();
    }
}
