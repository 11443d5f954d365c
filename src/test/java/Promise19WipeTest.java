/** Promise 19: wipe. */
final class Promise19WipeTest {
    public static void main(String[] args) {
        Check check = new Check("wipe");
        SundialSpans court = new SundialSpans();
        check.due("wipe() of an empty pad", court.wipe(), 0);
        Check.write(court, "d;d;d;d;d;d");
        check.due("wipe()", court.wipe(), 11);
        check.due("length then", court.count(8), 0);
        check.due("wipe() again", court.wipe(), 0);
        check.due("fault() of a wiped pad", court.fault(), 0);
        check.due("wipe() is no change", court.count(9), 0);
        check.due("put() after wipe()", court.put(Check.packed("a")), 1);
        check.due("the old text is gone", court.fault(), Check.NONE);
        court.dial();
        court.wipe();
        check.due("dials stay", court.count(1), 1);
        check.due("changes stay", court.count(9), 1);
        check.end();
    }
}
