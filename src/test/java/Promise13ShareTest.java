/** Promise 13: share. */
final class Promise13ShareTest {
    public static void main(String[] args) {
        Check check = new Check("share");
        SundialSpans empty = new SundialSpans();
        check.due("share() without dials", empty.share(), 0);
        empty.dial();
        check.due("share() without spans", empty.share(), 0);
        for (int all = 1; all <= 15; all++) {
            for (int honest = 1; honest <= all; honest++) {
                check.due("share() of " + honest + " of " + all, courtWith(honest, all).share(),
                    Float.floatToIntBits((float) honest / (float) all));
            }
        }
        SundialSpans court = Check.withReadings(100, 0, 100, 0, 200, 0);
        court.dial();
        check.due("share() of 2 of 3", court.share(), Float.floatToIntBits(2.0f / 3.0f));
        court.set(SundialSpans.OFTEN, 1);
        court.agree();
        check.due("share() when the liar is struck", court.share(), Float.floatToIntBits(1.0f));
        check.end();
    }

    private static SundialSpans courtWith(int honest, int all) {
        SundialSpans court = new SundialSpans();
        for (int dial = 0; dial < all; dial++) {
            court.dial();
            court.read(dial, dial < honest ? 5000 : dial * 10, 1);
        }
        return court;
    }
}
