/**
 * Promise 18, compare: "YEARS compared: in both (what 0), came (1), went (2), moved (3) by a MARK. NONE: not as told."
 */
public final class Promise18Test {
    public static void main(String[] args) {
        livesOnBothSides();
        oneDay();
        marks();
        days();
        knownDays();
        whats();
        movedOnTheDay();
        movedFromNothing();
        movedInBothAlone();
        fixedAndOverNeverMove();
        livesAsKnown();
        onDaysAheadOfTheNews();
        marksAsKnown();
        splitAndJoined();
        fortyThings();
        Check.finish();
    }

    private static void dueAll(Run run, String upToWhat, int both, int came, int went, int moved) {
        run.due(upToWhat + "0)", both).due(upToWhat + "1)", came).due(upToWhat + "2)", went)
                .due(upToWhat + "3)", moved);
    }

    /** One that lives from 10 to 20, 20 not counted: D and E on both sides of each bound. */
    private static void livesOnBothSides() {
        Run run = new Run("live on D or on E: in both, came, went", "born(5, 10)", "ends(0, 20)");
        dueAll(run, "compare(2, 10, 19, 0, ", 1, 0, 0, 0);
        dueAll(run, "compare(2, 9, 19, 0, ", 0, 1, 0, 0);
        dueAll(run, "compare(2, 9, 10, 0, ", 0, 1, 0, 0);
        dueAll(run, "compare(2, 10, 20, 0, ", 0, 0, 1, 0);
        dueAll(run, "compare(2, 19, 20, 0, ", 0, 0, 1, 0);
        dueAll(run, "compare(2, 9, 20, 0, ", 0, 0, 0, 0);
        dueAll(run, "compare(2, 19, 10, 0, ", 1, 0, 0, 0);
        dueAll(run, "compare(2, 19, 9, 0, ", 0, 0, 1, 0);
        dueAll(run, "compare(2, 20, 10, 0, ", 0, 1, 0, 0);
        dueAll(run, "compare(2, 20, 9, 0, ", 0, 0, 0, 0);
    }

    private static void oneDay() {
        Run run = new Run("D and E are one DAY", "born(5, 10)", "born(6, 11)", "mark(0, 2, 10, 7)");
        dueAll(run, "compare(2, 9, 9, 0, ", 0, 0, 0, 0);
        dueAll(run, "compare(2, 10, 10, 0, ", 1, 0, 0, 0);
        dueAll(run, "compare(2, 11, 11, 0, ", 2, 0, 0, 0);
    }

    private static void marks() {
        for (int what = 0; what < 4; what++) {
            int due = what == 0 ? 1 : 0;
            new Run("MARKS 0 to 3", "born(5, 0)").due("compare(-1, 10, 20, 0, " + what + ")", -1)
                    .due("compare(0, 10, 20, 0, " + what + ")", due).due("compare(1, 10, 20, 0, " + what + ")", due)
                    .due("compare(2, 10, 20, 0, " + what + ")", due).due("compare(3, 10, 20, 0, " + what + ")", due)
                    .due("compare(4, 10, 20, 0, " + what + ")", -1).due("compare(min, 10, 20, 0, " + what + ")", -1)
                    .due("compare(max, 10, 20, 0, " + what + ")", -1);
        }
    }

    private static void days() {
        for (int what = 0; what < 4; what++) {
            int due = what == 0 ? 1 : 0;
            Run run = new Run("DAYS 0 to 2,000", "born(5, 0)");
            for (String wrong : new String[] {"-1", "2001", "2002", "min", "max"}) {
                run.due("compare(2, " + wrong + ", 20, 0, " + what + ")", -1)
                        .due("compare(2, 10, " + wrong + ", 0, " + what + ")", -1);
            }
            for (int right : new int[] {0, 1, 1999, 2000}) {
                run.due("compare(2, " + right + ", 20, 0, " + what + ")", due)
                        .due("compare(2, 10, " + right + ", 0, " + what + ")", due);
            }
        }
    }

    private static void knownDays() {
        for (int what = 0; what < 4; what++) {
            int due = what == 0 ? 1 : 0;
            Run run = new Run("as KNOWN on a DAY 0 to 2,000", "born(5, 0)");
            for (String wrong : new String[] {"-1", "2001", "min", "max"}) {
                run.due("compare(2, 10, 20, " + wrong + ", " + what + ")", -1);
            }
            for (int right : new int[] {0, 1, 1999, 2000}) {
                run.due("compare(2, 10, 20, " + right + ", " + what + ")", due);
            }
        }
    }

    private static void whats() {
        new Run("what 0 to 3", "born(5, 0)", "born(6, 0)", "born(7, 0)", "born(8, 15)", "born(9, 15)", "born(10, 0)",
                "ends(5, 15)", "mark(0, 2, 15, 1)").due("compare(2, 10, 20, 0, -1)", -1)
                .due("compare(2, 10, 20, 0, 0)", 3).due("compare(2, 10, 20, 0, 1)", 2)
                .due("compare(2, 10, 20, 0, 2)", 1).due("compare(2, 10, 20, 0, 3)", 1)
                .due("compare(2, 10, 20, 0, 4)", -1).due("compare(2, 10, 20, 0, 5)", -1)
                .due("compare(2, 10, 20, 0, min)", -1).due("compare(2, 10, 20, 0, max)", -1);
    }

    private static void movedOnTheDay() {
        for (int mark = 2; mark < 4; mark++) {
            new Run("moved (in both, MARK m unlike), MARK " + mark, "born(5, 0)", "mark(0, " + mark + ", 0, 1)",
                    "mark(0, " + mark + ", 15, 2)", "mark(0, " + mark + ", 25, 1)")
                    .due("compare(" + mark + ", 13, 14, 0, 3)", 0).due("compare(" + mark + ", 14, 15, 0, 3)", 1)
                    .due("compare(" + mark + ", 15, 16, 0, 3)", 0).due("compare(" + mark + ", 15, 24, 0, 3)", 0)
                    .due("compare(" + mark + ", 15, 25, 0, 3)", 1).due("compare(" + mark + ", 14, 25, 0, 3)", 0)
                    .due("compare(" + mark + ", 15, 14, 0, 3)", 1).due("compare(" + (5 - mark) + ", 14, 15, 0, 3)", 0);
        }
    }

    private static void movedFromNothing() {
        new Run("moved: nothing was told on one DAY", "born(5, 0)", "mark(0, 2, 15, 0)")
                .due("compare(2, 14, 15, 0, 3)", 1).due("compare(2, 15, 14, 0, 3)", 1)
                .due("compare(2, 13, 14, 0, 3)", 0).due("compare(2, 15, 16, 0, 3)", 0);
    }

    private static void movedInBothAlone() {
        new Run("moved: in both alone", "born(5, 10)", "ends(0, 20)", "mark(0, 2, 15, 1)")
                .due("compare(2, 9, 19, 0, 3)", 0).due("compare(2, 10, 19, 0, 3)", 1).due("compare(2, 10, 20, 0, 3)", 0)
                .due("compare(2, 9, 20, 0, 3)", 0);
    }

    private static void fixedAndOverNeverMove() {
        new Run("MARKS 0 and 1 are so on all DAYS", "born(5, 0)", "mark(0, 0, 15, 1)", "mark(0, 1, 10, 1)",
                "mark(0, 1, 15, 2)").due("compare(0, 14, 15, 0, 3)", 0).due("compare(1, 14, 15, 0, 3)", 0)
                .due("compare(0, 0, 2000, 0, 3)", 0).due("compare(1, 0, 2000, 0, 3)", 0);
    }

    private static void livesAsKnown() {
        Run run = new Run("of THINGS (KNOWN by k)", "day(4)", "born(5, 10)", "day(6)", "ends(0, 20)", "day(8)");
        dueAll(run, "compare(2, 10, 20, 3, ", 0, 0, 0, 0);
        dueAll(run, "compare(2, 10, 20, 4, ", 1, 0, 0, 0);
        dueAll(run, "compare(2, 10, 20, 5, ", 1, 0, 0, 0);
        dueAll(run, "compare(2, 10, 20, 6, ", 0, 0, 1, 0);
        dueAll(run, "compare(2, 10, 20, 7, ", 0, 0, 1, 0);
        dueAll(run, "compare(2, 20, 10, 6, ", 0, 1, 0, 0);
        dueAll(run, "compare(2, 20, 10, 5, ", 1, 0, 0, 0);
        dueAll(run, "compare(2, 20, 10, 3, ", 0, 0, 0, 0);
    }

    private static void onDaysAheadOfTheNews() {
        Run run = new Run("DAYS ahead of the DAY of the news", "day(30)", "born(5, 10)", "mark(0, 2, 15, 7)", "day(40)",
                "ends(0, 20)");
        dueAll(run, "compare(2, 10, 15, 30, ", 1, 0, 0, 1);
        dueAll(run, "compare(2, 9, 20, 39, ", 0, 1, 0, 0);
        dueAll(run, "compare(2, 10, 20, 40, ", 0, 0, 1, 0);
        dueAll(run, "compare(2, 10, 15, 29, ", 0, 0, 0, 0);
        dueAll(run, "compare(2, 50, 10, 39, ", 1, 0, 0, 1);
    }

    private static void marksAsKnown() {
        new Run("moved, as KNOWN on k", "born(5, 0)", "day(4)", "mark(0, 2, 15, 1)", "load()", "day(8)", "undo(0)",
                "day(9)").due("compare(2, 14, 15, 3, 3)", 0).due("compare(2, 14, 15, 4, 3)", 1)
                .due("compare(2, 14, 15, 7, 3)", 1).due("compare(2, 14, 15, 8, 3)", 0)
                .due("compare(2, 14, 15, 2000, 3)", 0);
    }

    private static void splitAndJoined() {
        Run run = new Run("SPLIT and JOINED ones come and go", "born(5, 0)", "day(4)", "split(0, 20, 6, 7, 1, 2)",
                "day(6)", "join(1, 2, 30, 8)");
        dueAll(run, "compare(2, 19, 20, 3, ", 1, 0, 0, 0);
        dueAll(run, "compare(2, 19, 20, 4, ", 0, 2, 1, 0);
        dueAll(run, "compare(2, 20, 30, 5, ", 2, 0, 0, 0);
        dueAll(run, "compare(2, 20, 30, 6, ", 0, 1, 2, 0);
        dueAll(run, "compare(2, 20, 29, 6, ", 2, 0, 0, 0);
        dueAll(run, "compare(2, 19, 30, 6, ", 0, 1, 1, 0);
    }

    private static void fortyThings() {
        Run run = new Run("of all 40 THINGS").tellEach(0, 40, i -> "born(" + i + ", 10)")
                .tellEach(0, 40, i -> "mark(" + i + ", 3, 15, 9)");
        dueAll(run, "compare(3, 10, 20, 0, ", 40, 0, 0, 40);
        dueAll(run, "compare(3, 9, 20, 0, ", 0, 40, 0, 0);
        dueAll(run, "compare(3, 20, 9, 0, ", 0, 0, 40, 0);
    }
}
