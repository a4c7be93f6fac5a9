/**
 * Promise 12, thing: "Of a THING as KNOWN on a DAY: CODE (0), BIRTH (1), END (2; 2,001 none), how it ENDED (3: 0 not,
 * 1 ended, 2 SPLIT, 3 JOINED), its first heir (4; NONE), how often what it was is told over (5: VALUES of MARK 1 told
 * that aren't alike the one ahead). NONE: not as told, it isn't KNOWN then."
 */
public final class Promise12Test {
    public static void main(String[] args) {
        things();
        whats();
        knownDays();
        itIsNotKnownThen();
        codesAndBirths();
        ends();
        howItEnded();
        firstHeirs();
        toldOver();
        toldOverByOtherTellings();
        toldOverAsKnown();
        Check.finish();
    }

    private static void things() {
        for (int what = 0; what < 6; what++) {
            new Run("a THING that is none, what " + what).due("thing(0, 0, " + what + ")", -1)
                    .due("thing(-1, 0, " + what + ")", -1).tell("born(5, 10)", "born(6, 10)")
                    .due("thing(-1, 0, " + what + ")", -1).due("thing(2, 0, " + what + ")", -1)
                    .due("thing(39, 0, " + what + ")", -1).due("thing(40, 0, " + what + ")", -1)
                    .due("thing(min, 0, " + what + ")", -1).due("thing(max, 0, " + what + ")", -1)
                    .due("thing(0, 0, 0)", 5).due("thing(1, 0, 0)", 6);
        }
        new Run("the last of 40 THINGS").tellEach(0, 40, i -> "born(" + (99 - i) + ", 10)").due("thing(39, 0, 0)", 60)
                .due("thing(40, 0, 0)", -1);
    }

    private static void whats() {
        new Run("what 0 to 5", "born(5, 10)").due("thing(0, 0, -1)", -1).due("thing(0, 0, 0)", 5)
                .due("thing(0, 0, 1)", 10).due("thing(0, 0, 2)", 2001).due("thing(0, 0, 3)", 0)
                .due("thing(0, 0, 4)", -1).due("thing(0, 0, 5)", 0).due("thing(0, 0, 6)", -1)
                .due("thing(0, 0, 7)", -1).due("thing(0, 0, min)", -1).due("thing(0, 0, max)", -1);
    }

    private static void knownDays() {
        new Run("as KNOWN on a DAY 0 to 2,000", "born(5, 10)").due("thing(0, -1, 0)", -1).due("thing(0, 0, 0)", 5)
                .due("thing(0, 1, 0)", 5).due("thing(0, 1999, 0)", 5).due("thing(0, 2000, 0)", 5)
                .due("thing(0, 2001, 0)", -1).due("thing(0, min, 0)", -1).due("thing(0, max, 0)", -1)
                .due("thing(0, 2001, 2)", -1).due("thing(0, 2001, 3)", -1).due("thing(0, 2001, 5)", -1);
    }

    private static void itIsNotKnownThen() {
        Run run = new Run("it isn't KNOWN then", "day(5)", "born(6, 2)", "day(7)");
        int[] due = {6, 2, 2001, 0, -1, 0};
        for (int what = 0; what < 6; what++) {
            run.due("thing(0, 4, " + what + ")", -1).due("thing(0, 0, " + what + ")", -1)
                    .due("thing(0, 5, " + what + ")", due[what]).due("thing(0, 6, " + what + ")", due[what]);
        }
    }

    private static void codesAndBirths() {
        new Run("CODE (0), BIRTH (1)", "born(0, 2000)", "born(99, 0)").due("thing(0, 0, 0)", 0)
                .due("thing(1, 0, 0)", 99).due("thing(0, 0, 1)", 2000).due("thing(1, 0, 1)", 0);
    }

    private static void ends() {
        new Run("END (2; 2,001 none)", "born(5, 0)", "born(6, 1999)").due("thing(0, 0, 2)", 2001)
                .due("thing(0, 2000, 2)", 2001).tell("day(3)", "ends(0, 1)", "ends(1, 2000)")
                .due("thing(0, 2, 2)", 2001).due("thing(0, 3, 2)", 1).due("thing(0, 4, 2)", 1)
                .due("thing(1, 2, 2)", 2001).due("thing(1, 3, 2)", 2000);
    }

    private static void howItEnded() {
        new Run("how it ENDED", "born(5, 10)", "born(6, 10)", "born(7, 10)", "born(8, 10)", "born(9, 10)", "day(3)",
                "ends(1, 20)", "split(2, 20, 11, 12, 1, 2)", "join(3, 4, 20, 13)").due("thing(0, 3, 3)", 0)
                .due("thing(1, 3, 3)", 1).due("thing(2, 3, 3)", 2).due("thing(3, 3, 3)", 3).due("thing(4, 3, 3)", 3)
                .due("thing(5, 3, 3)", 0).due("thing(7, 3, 3)", 0).due("thing(1, 2, 3)", 0).due("thing(2, 2, 3)", 0)
                .due("thing(3, 2, 3)", 0).due("thing(4, 2, 3)", 0);
    }

    private static void firstHeirs() {
        new Run("its first heir (4; NONE)", "born(5, 10)", "born(6, 10)", "born(7, 10)", "born(8, 10)", "born(9, 10)",
                "day(3)", "ends(1, 20)", "split(2, 20, 11, 12, 0, 2)", "join(3, 4, 20, 13)")
                .due("thing(0, 3, 4)", -1).due("thing(1, 3, 4)", -1).due("thing(2, 3, 4)", 5)
                .due("thing(3, 3, 4)", 7).due("thing(4, 3, 4)", 7).due("thing(5, 3, 4)", -1)
                .due("thing(2, 2, 4)", -1).due("thing(3, 2, 4)", -1).due("thing(4, 2, 4)", -1);
    }

    private static void toldOver() {
        new Run("VALUES of MARK 1 told that aren't alike the one ahead", "born(5, 10)").due("thing(0, 0, 5)", 0)
                .tell("mark(0, 1, 10, 0)").due("thing(0, 0, 5)", 0).tell("mark(0, 1, 20, 0)")
                .due("thing(0, 0, 5)", 0).tell("mark(0, 1, 10, 1)").due("thing(0, 0, 5)", 1)
                .tell("mark(0, 1, 5, 1)").due("thing(0, 0, 5)", 1).tell("mark(0, 1, 10, 0)")
                .due("thing(0, 0, 5)", 2).tell("mark(0, 1, 10, 99)").due("thing(0, 0, 5)", 3)
                .tell("mark(0, 1, 2000, 98)", "mark(0, 1, 0, 99)").due("thing(0, 0, 5)", 5);
        new Run("told over as often as can be", "born(5, 10)").tellEach(0, 300, i -> "mark(0, 1, 10, " + i % 2 + ")")
                .due("thing(0, 0, 5)", 299);
    }

    private static void toldOverByOtherTellings() {
        new Run("VALUES of MARK 1 alone, of this THING alone", "born(5, 10)", "born(6, 10)", "mark(0, 1, 10, 1)",
                "mark(0, 0, 10, 2)", "mark(0, 2, 10, 3)", "mark(0, 2, 10, 4)", "mark(0, 3, 10, 5)", "mark(1, 1, 10, 6)",
                "mark(0, 3, 10, 6)", "mark(1, 1, 10, 7)", "mark(0, 1, 10, 1)").due("thing(0, 0, 5)", 0)
                .due("thing(1, 0, 5)", 1).tell("mark(0, 1, 10, 8)").due("thing(0, 0, 5)", 1);
    }

    private static void toldOverAsKnown() {
        new Run("told over as KNOWN", "born(5, 10)", "mark(0, 1, 10, 1)", "load()", "day(4)", "mark(0, 1, 10, 2)",
                "load()", "day(6)", "mark(0, 1, 10, 1)", "day(8)", "undo(1)", "day(10)", "mark(0, 1, 10, 3)")
                .due("thing(0, 3, 5)", 0).due("thing(0, 4, 5)", 1).due("thing(0, 5, 5)", 1)
                .due("thing(0, 6, 5)", 2).due("thing(0, 7, 5)", 2).due("thing(0, 8, 5)", 0)
                .due("thing(0, 9, 5)", 0).due("thing(0, 10, 5)", 1).tell("undo(0)").due("thing(0, 10, 5)", 1)
                .due("thing(0, 9, 5)", 0);
    }
}
