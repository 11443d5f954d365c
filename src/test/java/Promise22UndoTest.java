import java.util.Arrays;

/** Promise 22: undo. */
final class Promise22UndoTest {
    public static void main(String[] args) {
        Check check = new Check("undo");
        SundialSpans fresh = new SundialSpans();
        check.due("undo() of nothing", fresh.undo(), Check.NOT_POSSIBLE);
        sixStates(check);
        errorsLoseNoState(check);
        everyKindOfChange(check);
        everythingComesBack(check);
        padAndSlotsStay(check);
        onlyChangesCount(check);
        check.end();
    }

    private static void sixStates(Check check) {
        SundialSpans court = new SundialSpans();
        for (int round = 1; round <= 20; round++) {
            court.pass(round);
            check.due("count(9) after pass() " + round, court.count(9), Math.min(round, 6));
        }
        int now = 210;
        for (int left = 5; left >= 0; left--) {
            check.due("undo()", court.undo(), left);
            now -= 15 + left;
            check.due("time of now then", court.count(0), now);
        }
        check.due("a 7th undo()", court.undo(), Check.NOT_POSSIBLE);
        check.due("time of now then", court.count(0), now);
        court.pass(1);
        court.pass(2);
        check.due("undo() of new changes", court.undo(), 1);
        check.due("time of now", court.count(0), now + 1);
        court.pass(5);
        check.due("changes", court.count(9), 2);
        court.undo();
        check.due("time of now", court.count(0), now + 1);
    }

    private static void errorsLoseNoState(Check check) {
        SundialSpans court = new SundialSpans();
        for (int minute = 1; minute <= 6; minute++) {
            court.pass(1);
        }
        court.pass(0);
        court.set(2, 0);
        court.agree();
        court.restore(0);
        court.carryOut();
        for (int left = 5; left >= 0; left--) {
            check.due("undo() after errors", court.undo(), left);
            check.due("time of now then", court.count(0), left);
        }
    }

    private static void everyKindOfChange(Check check) {
        for (int kind = 0; kind < 7; kind++) {
            SundialSpans court = Check.withReadings(100, 3, 104, 3, 500, 0);
            court.save(0);
            court.pass(61);
            court.agree();
            court.pass(1);
            int[] before = picture(court);
            change(court, kind);
            check.holds("change " + kind + " changes something", !Arrays.equals(before, picture(court)));
            check.due("undo() of change " + kind, court.undo(), 5);
            same(check, "after undo() of change " + kind, before, picture(court));
        }
    }

    private static void change(SundialSpans court, int kind) {
        if (kind == 0) {
            court.set(SundialSpans.OFTEN, 9);
        } else if (kind == 1) {
            court.dial();
        } else if (kind == 2) {
            court.read(1, 700, 9);
        } else if (kind == 3) {
            court.pass(5);
        } else if (kind == 4) {
            court.agree();
        } else if (kind == 5) {
            Check.write(court, "d;t5;a");
            court.carryOut();
        } else {
            court.restore(0);
        }
    }

    private static void everythingComesBack(Check check) {
        SundialSpans court = Check.withReadings(100, 3, 104, 3, 500, 0);
        court.pass(61);
        court.agree();
        int[] before = picture(court);
        court.agree();
        court.agree();
        court.undo();
        court.undo();
        same(check, "after agree() twice", before, picture(court));
        court.read(2, 9, 9);
        court.undo();
        same(check, "after read()", before, picture(court));
        court.set(SundialSpans.WIDEN, 60);
        court.set(SundialSpans.OFTEN, 20);
        court.dial();
        court.read(3, 7, 8);
        court.pass(1000);
        for (int times = 0; times < 5; times++) {
            court.undo();
        }
        same(check, "after five changes", before, picture(court));
        court.dial();
        check.due("a dial that comes again has no reading", court.of(3, 2), Check.NONE);
    }

    private static int[] picture(SundialSpans court) {
        int[] picture = new int[8 + 15 * 7];
        for (int what = 0; what < 8; what++) {
            picture[what] = court.count(what);
        }
        for (int dial = 0; dial < 15; dial++) {
            for (int what = 0; what < 7; what++) {
                picture[8 + dial * 7 + what] = court.of(dial, what);
            }
        }
        return picture;
    }

    private static void same(Check check, String when, int[] before, int[] then) {
        for (int i = 0; i < before.length; i++) {
            check.due(when + ": number " + i, then[i], before[i]);
        }
    }

    private static void padAndSlotsStay(Check check) {
        SundialSpans court = new SundialSpans();
        court.dial();
        court.put(Check.packed("t5"));
        court.save(0);
        court.undo();
        check.due("length of the pad", court.count(8), 2);
        check.due("restore(0)", court.restore(0), 1);
        check.due("undo() of restore()", court.undo(), 0);
        check.due("dials then", court.count(1), 0);
    }

    private static void onlyChangesCount(Check check) {
        SundialSpans court = new SundialSpans();
        court.dial();
        court.of(0, 0);
        court.best(0);
        court.end(0, 0);
        court.overlap(0);
        court.count(0);
        court.mean();
        court.share();
        court.allowing(0, 0);
        court.fewest();
        court.widerIn(1);
        court.without(0);
        court.put(Check.packed("x"));
        court.fault();
        court.carryOut();
        court.wipe();
        court.save(1);
        court.set(0, 61);
        court.read(0, 0, 301);
        court.pass(0);
        court.agree();
        court.restore(0);
        court.restore(2);
        check.due("changes after all that is none", court.count(9), 1);
        court.read(0, 5, 5);
        check.due("read() that answers NONE is a change", court.count(9), 2);
        court.set(SundialSpans.WIDEN, 2);
        check.due("set() to the same value is a change", court.count(9), 3);
        court.restore(1);
        check.due("restore() is a change", court.count(9), 4);
    }
}
