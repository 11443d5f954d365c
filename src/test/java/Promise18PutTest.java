/** Promise 18: put. */
final class Promise18PutTest {
    public static void main(String[] args) {
        Check check = new Check("put");
        SundialSpans court = new SundialSpans();
        check.due("put of d", court.put(Check.packed("d")), 1);
        check.due("put of ;r0=5", court.put(Check.packed(";r0=5")), 6);
        check.due("put of ;t60;a;d", court.put(Check.packed(";t60;a;d")), 14);
        check.due("characters in their order", court.fault(), Check.NONE);
        check.due("put of ~~~~~~~~, with the highest sign", court.put(Check.packed("~~~~~~~~")), 22);
        check.due("put of !, the lowest sign", court.put(33), 23);
        check.due("put() is no change", court.count(9), 0);
        badCharacters(check);
        fullPad(check);
        check.end();
    }

    private static void badCharacters(Check check) {
        SundialSpans court = new SundialSpans();
        long[] wrong = {
            0L, -1L, 32L, 127L, 128L, 255L, 256L, 0x6400L, 0x640064L, 0x100000000000064L, 0x6400000000000000L,
            0x6420L, 0x2064L, 0x7F64L, 0x8064646464646464L, 0xFF64646464646464L, 0x0164646464646464L,
            Long.MIN_VALUE, Long.MAX_VALUE, Long.MIN_VALUE | 0x64L};
        for (long characters : wrong) {
            check.due("put(" + characters + ")", court.put(characters), Check.BAD_VALUE);
        }
        check.due("length of the pad after errors", court.count(8), 0);
        for (int code = 1; code < 256; code++) {
            boolean isGood = code >= 33 && code <= 126;
            check.due("put(" + code + ")", new SundialSpans().put(code), isGood ? 1 : Check.BAD_VALUE);
            check.due("put(" + code + " in the middle)", new SundialSpans().put(0x640064L | (long) code << 8),
                isGood ? 3 : Check.BAD_VALUE);
            check.due("put(" + code + " ahead of 7)", new SundialSpans().put(0x64646464646464L | (long) code << 56),
                isGood ? 8 : Check.BAD_VALUE);
        }
    }

    private static void fullPad(Check check) {
        SundialSpans court = new SundialSpans();
        for (int part = 1; part <= 9; part++) {
            check.due("put() " + part, court.put(Check.packed("d;d;d;d;")), part * 8);
        }
        court.put(Check.packed("d;d;d"));
        check.due("length", court.count(8), 77);
        check.due("4 characters more", court.put(Check.packed(";t60")), Check.TOO_MANY);
        check.due("a bad code is told first", court.put(0x64640020L), Check.BAD_VALUE);
        check.due("length after errors", court.count(8), 77);
        check.due("3 characters more", court.put(Check.packed(";t6")), 80);
        check.due("1 character more", court.put(Check.packed("0")), Check.TOO_MANY);
        check.due("no character more", court.put(0), Check.BAD_VALUE);
        check.due("fault() of the full pad", court.fault(), Check.NONE);
    }
}
