import java.util.ArrayList;
import java.util.List;

/** What an object tells of its state, to find out whether two are alike. It keeps within the 512 calls of an object. */
final class Picture {
    private Picture() {
    }

    /** What can be asked without a change: all numbers, and all of the first four dials. */
    static List<Integer> of(SundialSpans court) {
        List<Integer> picture = new ArrayList<>();
        for (int what = 0; what < 10; what++) {
            picture.add(court.count(what));
        }
        int dials = Math.min(4, picture.get(1));
        for (int dial = 0; dial < dials; dial++) {
            for (int what = 0; what < 7; what++) {
                picture.add(court.of(dial, what));
            }
        }
        return picture;
    }

    /** Without the two numbers that undo() and restore() do not bring back: the pad's length and the history's. */
    static List<Integer> ofState(SundialSpans court) {
        List<Integer> picture = of(court);
        picture.remove(9);
        picture.remove(8);
        return picture;
    }

    /** All that is inside: the state, the pad (by what it does), each state of the history, and both slots. */
    static List<Integer> inside(SundialSpans court) {
        List<Integer> picture = of(court);
        picture.add(court.fault());
        picture.add(court.carryOut());
        picture.addAll(of(court));
        while (court.count(9) > 0) {
            picture.add(court.undo());
            picture.addAll(of(court));
        }
        for (int slot = 0; slot < 2; slot++) {
            picture.add(court.restore(slot));
            picture.addAll(of(court));
        }
        return picture;
    }
}
