/** Promise 6: agree. */
final class Promise06AgreeTest {
    public static void main(String[] args) {
        Check check = new Check("agree");
        noSpan(check);
        liesAndHonesty(check);
        strikes(check);
        oftenIsLowered(check);
        differentDialsInOneOverlap(check);
        endsBelow0(check);
        check.end();
    }

    private static void noSpan(Check check) {
        SundialSpans court = new SundialSpans();
        check.due("agree() without dials", court.agree(), Check.NOT_POSSIBLE);
        court.dial();
        check.due("agree() without readings", court.agree(), Check.NOT_POSSIBLE);
        check.due("count(4)", court.count(4), 0);
        check.due("count(9)", court.count(9), 1);
    }

    private static void liesAndHonesty(Check check) {
        SundialSpans court = Check.withReadings(600, 5, 604, 3, 700, 10);
        court.dial();
        check.due("agree()", court.agree(), 100603);
        check.due("agree() again", court.agree(), 100603);
        check.due("times agreed", court.count(4), 2);
        check.due("latest hour", court.count(5), 100603);
        check.due("lies of the liar", court.of(2, 4), 2);
        check.due("its lies in a row", court.of(2, 5), 2);
        check.due("lies of an honest one", court.of(0, 4), 0);
        check.due("lies without a span", court.of(3, 4), 0);
        court.read(2, 603, 0);
        check.due("agree() with all", court.agree(), 100603);
        check.due("lies so far", court.of(2, 4), 2);
        check.due("lies in a row", court.of(2, 5), 0);
        court.read(2, 0, 0);
        court.agree();
        check.due("lies so far, once more", court.of(2, 4), 3);
        check.due("lies in a row, once more", court.of(2, 5), 1);
        check.due("struck ones", court.count(3), 0);
        check.due("agree() is a change", court.undo(), 5);
        check.due("lies after undo()", court.of(2, 4), 2);
    }

    private static void strikes(Check check) {
        SundialSpans court = Check.withReadings(600, 0, 600, 0, 700, 0);
        court.agree();
        court.agree();
        check.due("struck after 2 lies", court.of(2, 6), 0);
        court.agree();
        check.due("struck after 3 lies", court.of(2, 6), 1);
        check.due("dials with spans", court.count(2), 3);
        court.agree();
        check.due("a struck one lies no more", court.of(2, 4), 3);
        court.set(SundialSpans.OFTEN, 20);
        check.due("set() does not free it", court.of(2, 6), 1);
    }

    private static void oftenIsLowered(Check check) {
        SundialSpans court = Check.withReadings(600, 0, 600, 0, 700, 0, 800, 0);
        court.agree();
        court.agree();
        court.set(SundialSpans.OFTEN, 1);
        check.due("set() strikes none", court.count(3), 0);
        court.read(2, 600, 0);
        court.agree();
        check.due("the honest one is free, the liar is struck", court.count(3), 8);
        check.due("lies in a row of the struck one", court.of(3, 5), 3);
    }

    private static void differentDialsInOneOverlap(Check check) {
        SundialSpans court = Check.withReadings(5, 0, 6, 0);
        check.due("agree() on 5 to 6", court.agree(), 100005);
        check.due("the one that ends at 5", court.of(0, 4), 0);
        check.due("the one that begins at 6", court.of(1, 4), 1);
    }

    private static void endsBelow0(Check check) {
        check.due("agree() on -300 to 300", Check.withReadings(0, 300).agree(), 100000);
        check.due("agree() on -299 to 300", Check.withReadings(0, 300, 1, 300).agree(), 100000);
        check.due("agree() on -298 to 300", Check.withReadings(0, 300, 2, 300).agree(), 100001);
    }
}
