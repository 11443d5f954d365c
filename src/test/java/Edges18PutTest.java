/** The boundary sentences of "Promise 18: put". */
final class Edges18PutTest {
    static Edges edges() {
        return new Edges("Promise 18: put")
            .at("Appends characters to the pad.", Edges18PutTest::appends)
            .at("They are given as a number: its lowest 8 bits are the last character, the next 8 bits the one before, "
                + "and so on", Edges18PutTest::orderOfCharacters)
            .at("8 bits that are 0 mean that there are no more characters, and everything above them has to be 0, too.",
                Edges18PutTest::bitsAbove)
            .at("`characters`: 1 to 8 characters", Edges18PutTest::oneTo8)
            .at("Returns the length of the pad then", Edges18PutTest::length)
            .at("BAD_VALUE if there is no character", Edges18PutTest::noCharacter)
            .at(", a code is not 33 to 126", Edges18PutTest::codes)
            .at(", or a bit above 8 bits that are 0 is not 0", Edges18PutTest::oneBitAbove)
            .at("TOO_MANY if the pad would be longer than 80.", Edges18PutTest::tooMany);
    }

    public static void main(String[] args) {
        edges().run();
    }

    private static void refused(Check check, long characters) {
        SundialSpans court = new SundialSpans();
        check.due("put(0x" + Long.toHexString(characters) + ")", court.put(characters), Check.BAD_VALUE);
        check.due("length then", court.count(8), 0);
    }

    private static void appends(Check check) {
        SundialSpans court = Check.withPad("t1");
        court.put('2');
        court.put(Check.packed(";d"));
        check.due("two orders are carried out", court.carryOut(), 2);
        check.due("12 minutes passed", court.count(0), 12);
        court.put(Check.packed("t1"));
        court.wipe();
        court.put(Check.packed("t3"));
        check.due("nothing is left of what was wiped", court.carryOut(), 1);
        check.due("3 minutes more", court.count(0), 15);
    }

    private static void orderOfCharacters(Check check) {
        SundialSpans court = new SundialSpans();
        court.put(0x74313233L);
        court.carryOut();
        check.due("\"t123\"", court.count(0), 123);
        court.put(0x643B643B74313030L);
        check.due("\"d;d;t100\"", court.carryOut(), 3);
        check.due("it passed 100 minutes", court.count(0), 223);
    }

    private static void bitsAbove(Check check) {
        check.due("one character, and 0 above", new SundialSpans().put(0x64), 1);
        check.due("seven characters, and 0 above", new SundialSpans().put(0x64646464646464L), 7);
        refused(check, 0x640064);
        refused(check, 0x6400000000000064L);
        refused(check, 0x6400646464646464L);
        refused(check, 0x6400);
    }

    private static void oneTo8(Check check) {
        long characters = 0;
        for (int many = 1; many <= 8; many++) {
            characters = characters << 8 | 'd';
            check.due(many + " characters", new SundialSpans().put(characters), many);
        }
        refused(check, 0);
    }

    private static void length(Check check) {
        SundialSpans court = new SundialSpans();
        check.due("from 0 to 1", court.put('d'), 1);
        check.due("from 1 to 9", court.put(Check.packed("dddddddd")), 9);
        court.wipe();
        check.due("from 0 again", court.put('d'), 1);
        check.due("from 79 to 80", Check.withPad("d".repeat(79)).put('d'), 80);
    }

    private static void noCharacter(Check check) {
        refused(check, 0);
        refused(check, 0x100);
        refused(check, Long.MIN_VALUE);
    }

    private static void codes(Check check) {
        for (int place = 0; place < 8; place++) {
            long others = 0x6464646464646464L & ~(0xFFL << 8 * place);
            for (long code : new long[] {1, 10, 32, 127, 128, 255}) {
                refused(check, others | code << 8 * place);
            }
            check.due("33 at place " + place, new SundialSpans().put(others | 33L << 8 * place), 8);
            check.due("126 at place " + place, new SundialSpans().put(others | 126L << 8 * place), 8);
        }
        refused(check, -1L);
        refused(check, Long.MAX_VALUE);
        refused(check, 32);
        refused(check, 127);
        check.due("33 alone", new SundialSpans().put(33), 1);
        check.due("126 alone", new SundialSpans().put(126), 1);
    }

    private static void oneBitAbove(Check check) {
        for (int bit = 16; bit < 64; bit++) {
            refused(check, 0x64 | 1L << bit);
        }
        refused(check, 0x6464 | 1L << 63);
        refused(check, 0x64 | 0x21L << 56);
    }

    private static void tooMany(Check check) {
        SundialSpans court = Check.withPad("d".repeat(79));
        check.due("from 79 to 81", court.put(Check.packed("dd")), Check.TOO_MANY);
        check.due("the pad stays", court.count(8), 79);
        check.due("from 79 to 80", court.put('d'), 80);
        check.due("from 80 to 81", court.put('d'), Check.TOO_MANY);
        check.due("from 80 to 88", court.put(Check.packed("dddddddd")), Check.TOO_MANY);
        check.due("a wrong code comes first", court.put(127), Check.BAD_VALUE);
        check.due("the pad stays", court.count(8), 80);
        court.wipe();
        check.due("there is room again", court.put('d'), 1);
    }
}
