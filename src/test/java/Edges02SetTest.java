/** The boundary sentences of "Promise 2: set". */
final class Edges02SetTest {
    static Edges edges() {
        return new Edges("Promise 2: set")
            .at("Changes a setting.", Edges02SetTest::oneSettingAlone)
            .at("This is a change.", Edges02SetTest::isAChange)
            .at("Returns the previous value", Edges02SetTest::previousValue)
            .at("BAD_VALUE if there is no such setting", Edges02SetTest::noSuchSetting)
            .at(", or the value is out of its range.", Edges02SetTest::outOfRange);
    }

    public static void main(String[] args) {
        edges().run();
    }

    private static void oneSettingAlone(Check check) {
        SundialSpans court = new SundialSpans();
        court.set(0, 0);
        check.due("WIDEN at its least", court.count(6), 0);
        check.due("OFTEN stays", court.count(7), 3);
        court.set(1, 1);
        check.due("OFTEN at its least", court.count(7), 1);
        court.set(0, 60);
        court.set(1, 20);
        check.due("WIDEN at its greatest", court.count(6), 60);
        check.due("OFTEN at its greatest", court.count(7), 20);
    }

    private static void isAChange(Check check) {
        SundialSpans court = new SundialSpans();
        court.set(0, 2);
        check.due("the value that it has is a change", court.count(9), 1);
        court.set(0, 61);
        court.set(2, 2);
        check.due("a refused call is none", court.count(9), 1);
        court.set(1, 20);
        check.due("undo()", court.undo(), 1);
        check.due("OFTEN is as before", court.count(7), 3);
    }

    private static void previousValue(Check check) {
        SundialSpans court = new SundialSpans();
        int[][] settingsValuesAndDues = {{0, 60, 2}, {0, 0, 60}, {0, 0, 0}, {0, 1, 0}, {1, 20, 3}, {1, 1, 20}, {1, 1, 1}};
        for (int[] row : settingsValuesAndDues) {
            check.due("set(" + row[0] + ", " + row[1] + ")", court.set(row[0], row[1]), row[2]);
        }
        court.set(0, 61);
        check.due("after a refused one", court.set(0, 9), 1);
    }

    private static void noSuchSetting(Check check) {
        SundialSpans court = new SundialSpans();
        for (int setting : new int[] {-1, 2, Make.LEAST, Make.MOST}) {
            check.due("set(" + setting + ", 5)", court.set(setting, 5), Check.BAD_VALUE);
        }
        check.due("there is a setting 0", court.set(0, 5), 2);
        check.due("there is a setting 1", court.set(1, 5), 3);
    }

    private static void outOfRange(Check check) {
        SundialSpans court = new SundialSpans();
        for (int value : new int[] {-1, 61, Make.LEAST, Make.MOST}) {
            check.due("set(0, " + value + ")", court.set(0, value), Check.BAD_VALUE);
        }
        for (int value : new int[] {-1, 0, 21, 60, Make.LEAST, Make.MOST}) {
            check.due("set(1, " + value + ")", court.set(1, value), Check.BAD_VALUE);
        }
        check.due("WIDEN stays", court.count(6), 2);
        check.due("OFTEN stays", court.count(7), 3);
    }
}
