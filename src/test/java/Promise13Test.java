/**
 * Promise 13, hangs: "The THING on which a FACT hangs as KNOWN on a DAY. NONE: it WAITS; -2: none such, it isn't KNOWN
 * then, or is UNDONE by then."
 */
public final class Promise13Test {
    public static void main(String[] args) {
        theThingThatLivesOnItsDay();
        theFirstAndTheLastDay();
        itWaits();
        noneSuch();
        itIsNotKnownThen();
        knownDays();
        undoneByThen();
        lateNews();
        Check.finish();
    }

    private static void theThingThatLivesOnItsDay() {
        new Run("the THING of its CODE that lives on its DAY", "born(5, 10)", "born(6, 0)", "ends(0, 20)",
                "born(5, 21)", "fact(5, 9, 1)", "fact(5, 10, 1)", "fact(5, 11, 1)", "fact(5, 19, 1)", "fact(5, 20, 1)",
                "fact(5, 21, 1)", "fact(5, 22, 1)").due("hangs(0, 0)", -1).due("hangs(1, 0)", 0)
                .due("hangs(2, 0)", 0).due("hangs(3, 0)", 0).due("hangs(4, 0)", -1).due("hangs(5, 0)", 2)
                .due("hangs(6, 0)", 2);
        new Run("on the DAY of a SPLIT or a JOIN", "born(5, 10)", "split(0, 20, 5, 6, 1, 2)", "join(1, 2, 30, 5)",
                "fact(5, 19, 1)", "fact(5, 20, 1)", "fact(6, 19, 1)", "fact(6, 20, 1)", "fact(6, 29, 1)",
                "fact(6, 30, 1)", "fact(5, 29, 1)", "fact(5, 30, 1)").due("hangs(0, 0)", 0).due("hangs(1, 0)", 1)
                .due("hangs(2, 0)", -1).due("hangs(3, 0)", 2).due("hangs(4, 0)", 2).due("hangs(5, 0)", -1)
                .due("hangs(6, 0)", 1).due("hangs(7, 0)", 3);
    }

    private static void theFirstAndTheLastDay() {
        new Run("on the first and the last DAY", "born(0, 0)", "born(99, 2000)", "fact(0, 0, 1)", "fact(0, 2000, 1)",
                "fact(99, 1999, 1)", "fact(99, 2000, 1)").due("hangs(0, 0)", 0).due("hangs(1, 0)", 0)
                .due("hangs(2, 0)", -1).due("hangs(3, 0)", 1);
    }

    private static void itWaits() {
        new Run("NONE: it WAITS", "fact(5, 10, 1)").due("hangs(0, 0)", -1).due("hangs(0, 2000)", -1)
                .tell("born(4, 10)", "born(6, 10)").due("hangs(0, 0)", -1).tell("born(5, 11)").due("hangs(0, 0)", -1);
        new Run("it WAITS no more on the DAY of its news", "fact(5, 10, 1)", "day(4)", "born(5, 10)")
                .due("hangs(0, 3)", -1).due("hangs(0, 4)", 0).due("hangs(0, 5)", 0).due("hangs(0, 2000)", 0);
    }

    private static void noneSuch() {
        new Run("-2: none such").due("hangs(0, 0)", -2).due("hangs(-1, 0)", -2)
                .tell("born(5, 10)", "fact(5, 10, 1)", "fact(6, 10, 1)").due("hangs(-1, 0)", -2)
                .due("hangs(0, 0)", 0).due("hangs(1, 0)", -1).due("hangs(2, 0)", -2).due("hangs(199, 0)", -2)
                .due("hangs(200, 0)", -2).due("hangs(min, 0)", -2).due("hangs(max, 0)", -2);
        new Run("-2: none such, of 200").tellEach(0, 200, i -> "fact(5, 10, 1)").due("hangs(199, 0)", -1)
                .due("hangs(200, 0)", -2);
    }

    private static void itIsNotKnownThen() {
        new Run("-2: it isn't KNOWN then", "born(5, 10)", "day(4)", "fact(5, 10, 1)", "fact(6, 10, 1)", "day(6)")
                .due("hangs(0, 0)", -2).due("hangs(0, 3)", -2).due("hangs(0, 4)", 0).due("hangs(0, 5)", 0)
                .due("hangs(1, 3)", -2).due("hangs(1, 4)", -1);
    }

    private static void knownDays() {
        new Run("as KNOWN on a DAY 0 to 2,000", "born(5, 10)", "fact(5, 10, 1)", "fact(6, 10, 1)")
                .due("hangs(0, -1)", -2).due("hangs(0, 0)", 0).due("hangs(0, 1)", 0).due("hangs(0, 1999)", 0)
                .due("hangs(0, 2000)", 0).due("hangs(0, 2001)", -2).due("hangs(0, min)", -2)
                .due("hangs(0, max)", -2).due("hangs(1, -1)", -2).due("hangs(1, 2000)", -1)
                .due("hangs(1, 2001)", -2);
    }

    private static void undoneByThen() {
        new Run("-2: UNDONE by then", "born(5, 10)", "fact(5, 10, 1)", "fact(6, 10, 1)", "load()", "fact(5, 10, 1)",
                "day(4)", "undo(0)", "day(6)").due("hangs(0, 3)", 0).due("hangs(0, 4)", -2).due("hangs(0, 5)", -2)
                .due("hangs(0, 2000)", -2).due("hangs(1, 3)", -1).due("hangs(1, 4)", -2).due("hangs(2, 3)", 0)
                .due("hangs(2, 4)", 0);
    }

    private static void lateNews() {
        new Run("as far as that is KNOWN", "born(5, 10)", "fact(5, 20, 1)", "day(4)", "ends(0, 20)", "day(6)",
                "born(5, 20)", "day(8)", "split(1, 21, 5, 6, 1, 2)", "day(10)").due("hangs(0, 3)", 0)
                .due("hangs(0, 4)", -1).due("hangs(0, 5)", -1).due("hangs(0, 6)", 1).due("hangs(0, 8)", 1);
        new Run("as far as a SPLIT on its DAY is KNOWN", "born(5, 10)", "fact(5, 20, 1)", "day(4)",
                "split(0, 20, 6, 5, 1, 2)").due("hangs(0, 3)", 0).due("hangs(0, 4)", 2);
        new Run("as far as a JOIN on its DAY is KNOWN", "born(5, 10)", "born(6, 10)", "fact(6, 20, 1)", "day(4)",
                "join(0, 1, 20, 6)").due("hangs(0, 3)", 1).due("hangs(0, 4)", 2);
    }
}
