/** Promise 20: fault. */
final class Promise20FaultTest {
    public static void main(String[] args) {
        Check check = new Check("fault");
        String[] right = {
            "d", "a", "t0", "t9999", "r0=0", "r0=0~0", "r9999=9999~9999", "d;d", "a;d;t5;r1=2;r3=4~5", "t10", "r10=20~300",
            "r0=5;d", "r0=5~6;d", "t0;t0"};
        for (String text : right) {
            check.due("fault() of " + text, Check.withPad(text).fault(), Check.NONE);
        }
        check.due("fault() of nothing", new SundialSpans().fault(), 0);
        faultsInside(check);
        textsThatEndTooEarly(check);
        everyOtherSign(check);
        longTexts(check);
        check.end();
    }

    private static void faultsInside(Check check) {
        String[] texts = {
            "x", ";", "0", "=", "~", "dd", "da", "d0", "aa", "td", "t;", "t=", "t00", "t05", "t12345", "t99990", "t10000", "t1000;", "t1=", "t1~",
            "t1d", "t1a", "r=", "rd", "r~", "r00", "r01", "r12345", "r1~", "r1;", "r1d", "r1==", "r1=d", "r1=~", "r1=;",
            "r1=00", "r1=01", "r1=12345", "r1=2=", "r1=2d", "r1=2~~", "r1=2~;", "r1=2~=", "r1=2~00", "r1=2~12345",
            "r1=2~3~", "r1=2~3=", "r1=2~3d", "d;;", "d;x", "d;d;D", "D", "A", "T1", "R1=2", "t-1", "t+1", "r1=2~3d;d"};
        int[] faults = {
            0, 0, 0, 0, 0, 1, 1, 1, 1, 1, 1, 1, 2, 2, 5, 5, 5, 6, 2, 2,
            2, 2, 1, 1, 1, 2, 2, 5, 2, 2, 2, 3, 3, 3, 3,
            4, 4, 7, 4, 4, 5, 5, 5, 6, 9,
            6, 6, 6, 2, 2, 4, 0, 0, 0, 0, 1, 1, 6};
        check.due("faults told", faults.length, texts.length);
        for (int i = 0; i < texts.length; i++) {
            check.due("fault() of " + texts[i], Check.withPad(texts[i]).fault(), faults[i]);
        }
    }

    private static void textsThatEndTooEarly(Check check) {
        for (String text : new String[] {"t", "r", "r1", "r12", "r1=", "r1=2~", "d;", "a;t", "d;r0", "d;r0=", "d;r0=1~", "t1;"}) {
            check.due("fault() of " + text, Check.withPad(text).fault(), text.length());
        }
    }

    /** No sign beside the right ones can stand ahead of an order, behind one, or at a number's place. */
    private static void everyOtherSign(Check check) {
        for (char sign = 33; sign <= 126; sign++) {
            boolean isDigit = sign >= '0' && sign <= '9';
            check.due("fault() of " + sign, Check.withPad("" + sign).fault(),
                sign == 'd' || sign == 'a' ? Check.NONE : sign == 'r' || sign == 't' ? 1 : 0);
            check.due("fault() of d" + sign, Check.withPad("d" + sign).fault(), sign == ';' ? 2 : 1);
            check.due("fault() of t" + sign, Check.withPad("t" + sign).fault(), isDigit ? Check.NONE : 1);
            check.due("fault() of t0" + sign, Check.withPad("t0" + sign).fault(), sign == ';' ? 3 : 2);
            check.due("fault() of r1" + sign, Check.withPad("r1" + sign).fault(), isDigit || sign == '=' ? 3 : 2);
            check.due("fault() of r0=0" + sign, Check.withPad("r0=0" + sign).fault(), sign == ';' || sign == '~' ? 5 : 4);
        }
    }

    private static void longTexts(Check check) {
        String forty = "d;".repeat(39) + "d";
        check.due("fault() of 40 orders", Check.withPad(forty).fault(), Check.NONE);
        check.due("fault() of 40 orders and ;", Check.withPad(forty + ";").fault(), 80);
        SundialSpans court = Check.withPad("t9");
        check.due("fault() changes nothing", court.fault(), Check.NONE);
        court.put(Check.packed("9"));
        check.due("fault() of a longer text", court.fault(), Check.NONE);
        check.due("length", court.count(8), 3);
        check.due("fault() is no change", court.count(9), 0);
    }
}
