/**
 * Promise 11, told: "A THING's MARK on a DAY as KNOWN on one: VALUE; 100: nothing. NONE: not as told, it isn't KNOWN
 * then. (Also on DAYS on which it doesn't live.)"
 */
public final class Promise11Test {
    public static void main(String[] args) {
        nothing();
        things();
        marks();
        days();
        knownDays();
        itIsNotKnownThen();
        onADayAheadOfItsNews();
        alsoWhereItDoesNotLive();
        fixed();
        over();
        kept(2);
        kept(3);
        ofOneDayTheLastTold(2);
        ofOneDayTheLastTold(3);
        toldByThen();
        Check.finish();
    }

    private static void nothing() {
        Run run = new Run("100: nothing", "born(5, 10)", "born(6, 10)");
        for (int mark = 0; mark < 4; mark++) {
            run.due("told(0, " + mark + ", 0, 0)", 100).due("told(0, " + mark + ", 2000, 0)", 100)
                    .tell("mark(1, " + mark + ", 0, 5)").due("told(0, " + mark + ", 2000, 0)", 100)
                    .due("told(1, " + mark + ", 2000, 0)", 5);
        }
    }

    private static void things() {
        new Run("a THING that is none").due("told(0, 1, 10, 0)", -1).due("told(-1, 1, 10, 0)", -1)
                .tell("born(5, 10)", "born(6, 10)").due("told(-1, 1, 10, 0)", -1).due("told(0, 1, 10, 0)", 100)
                .due("told(1, 1, 10, 0)", 100).due("told(2, 1, 10, 0)", -1).due("told(39, 1, 10, 0)", -1)
                .due("told(40, 1, 10, 0)", -1).due("told(min, 1, 10, 0)", -1).due("told(max, 1, 10, 0)", -1);
        new Run("the last of 40 THINGS").tellEach(0, 40, i -> "born(" + i + ", 10)").due("told(39, 1, 10, 0)", 100)
                .due("told(40, 1, 10, 0)", -1);
    }

    private static void marks() {
        new Run("MARKS 0 to 3", "born(5, 10)", "mark(0, 0, 0, 0)", "mark(0, 1, 0, 1)", "mark(0, 2, 0, 98)",
                "mark(0, 3, 0, 99)").due("told(0, -1, 10, 0)", -1).due("told(0, 0, 10, 0)", 0)
                .due("told(0, 1, 10, 0)", 1).due("told(0, 2, 10, 0)", 98).due("told(0, 3, 10, 0)", 99)
                .due("told(0, 4, 10, 0)", -1).due("told(0, 5, 10, 0)", -1).due("told(0, min, 10, 0)", -1)
                .due("told(0, max, 10, 0)", -1);
    }

    private static void days() {
        for (int mark = 0; mark < 4; mark++) {
            new Run("DAYS 0 to 2,000, MARK " + mark, "born(5, 10)", "mark(0, " + mark + ", 0, 7)")
                    .due("told(0, " + mark + ", -1, 0)", -1).due("told(0, " + mark + ", 0, 0)", 7)
                    .due("told(0, " + mark + ", 1, 0)", 7).due("told(0, " + mark + ", 1999, 0)", 7)
                    .due("told(0, " + mark + ", 2000, 0)", 7).due("told(0, " + mark + ", 2001, 0)", -1)
                    .due("told(0, " + mark + ", 2002, 0)", -1).due("told(0, " + mark + ", min, 0)", -1)
                    .due("told(0, " + mark + ", max, 0)", -1);
        }
    }

    private static void knownDays() {
        new Run("as KNOWN on a DAY 0 to 2,000", "born(5, 10)", "mark(0, 1, 0, 7)").due("told(0, 1, 10, -1)", -1)
                .due("told(0, 1, 10, 0)", 7).due("told(0, 1, 10, 1)", 7).due("told(0, 1, 10, 1999)", 7)
                .due("told(0, 1, 10, 2000)", 7).due("told(0, 1, 10, 2001)", -1).due("told(0, 1, 10, min)", -1)
                .due("told(0, 1, 10, max)", -1);
    }

    private static void itIsNotKnownThen() {
        new Run("it isn't KNOWN then", "day(5)", "born(5, 10)", "day(7)", "mark(0, 1, 0, 7)", "day(9)",
                "split(0, 20, 6, 7, 1, 2)").due("told(0, 1, 10, 4)", -1).due("told(0, 1, 10, 5)", 100)
                .due("told(0, 1, 10, 6)", 100).due("told(0, 1, 10, 7)", 7).due("told(0, 1, 10, 8)", 7)
                .due("told(1, 1, 20, 8)", -1).due("told(2, 1, 20, 8)", -1).due("told(1, 1, 20, 9)", 100)
                .due("told(2, 1, 20, 9)", 100);
    }

    private static void onADayAheadOfItsNews() {
        new Run("on a DAY ahead of the DAY of its news", "day(30)", "born(5, 10)", "mark(0, 2, 15, 7)")
                .due("told(0, 2, 14, 30)", 100).due("told(0, 2, 15, 30)", 7).due("told(0, 2, 29, 30)", 7)
                .due("told(0, 2, 15, 29)", -1).due("told(0, 2, 40, 29)", -1).due("told(0, 2, 40, 30)", 7);
    }

    private static void alsoWhereItDoesNotLive() {
        new Run("(Also on DAYS on which it doesn't live.)", "born(5, 10)", "ends(0, 20)", "mark(0, 2, 5, 1)",
                "mark(0, 2, 30, 2)").due("told(0, 2, 4, 0)", 100).due("told(0, 2, 5, 0)", 1)
                .due("told(0, 2, 9, 0)", 1).due("told(0, 2, 10, 0)", 1).due("told(0, 2, 19, 0)", 1)
                .due("told(0, 2, 20, 0)", 1).due("told(0, 2, 29, 0)", 1).due("told(0, 2, 30, 0)", 2)
                .due("told(0, 2, 2000, 0)", 2).due("told(0, 1, 0, 0)", 100).due("told(0, 1, 2000, 0)", 100);
    }

    private static void fixed() {
        new Run("MARK 0 is FIXED: whatever the DAY, it's so on all DAYS", "born(5, 10)", "mark(0, 0, 30, 4)")
                .due("told(0, 0, 0, 0)", 4).due("told(0, 0, 29, 0)", 4).due("told(0, 0, 30, 0)", 4)
                .due("told(0, 0, 31, 0)", 4).due("told(0, 0, 2000, 0)", 4);
        new Run("MARK 0 is FIXED, told from the last DAY", "born(5, 10)", "mark(0, 0, 2000, 4)")
                .due("told(0, 0, 0, 0)", 4).due("told(0, 0, 1999, 0)", 4).due("told(0, 0, 2000, 0)", 4);
    }

    private static void over() {
        new Run("MARK 1 is OVER: the latest told VALUE is so on all DAYS", "born(5, 10)", "mark(0, 1, 30, 4)")
                .due("told(0, 1, 0, 0)", 4).due("told(0, 1, 29, 0)", 4).due("told(0, 1, 30, 0)", 4)
                .due("told(0, 1, 2000, 0)", 4).tell("mark(0, 1, 10, 5)").due("told(0, 1, 0, 0)", 5)
                .due("told(0, 1, 10, 0)", 5).due("told(0, 1, 30, 0)", 5).due("told(0, 1, 2000, 0)", 5)
                .tell("mark(0, 1, 2000, 6)").due("told(0, 1, 0, 0)", 6).due("told(0, 1, 1999, 0)", 6);
    }

    private static void kept(int mark) {
        new Run("KEPT: told from the latest DAY at most d", "born(5, 10)", "mark(0, " + mark + ", 30, 4)",
                "mark(0, " + mark + ", 20, 3)", "mark(0, " + mark + ", 40, 5)")
                .due("told(0, " + mark + ", 0, 0)", 100).due("told(0, " + mark + ", 19, 0)", 100)
                .due("told(0, " + mark + ", 20, 0)", 3).due("told(0, " + mark + ", 21, 0)", 3)
                .due("told(0, " + mark + ", 29, 0)", 3).due("told(0, " + mark + ", 30, 0)", 4)
                .due("told(0, " + mark + ", 31, 0)", 4).due("told(0, " + mark + ", 39, 0)", 4)
                .due("told(0, " + mark + ", 40, 0)", 5).due("told(0, " + mark + ", 2000, 0)", 5);
        new Run("KEPT: told from the first and from the last DAY", "born(5, 10)", "mark(0, " + mark + ", 2000, 2)",
                "mark(0, " + mark + ", 0, 1)").due("told(0, " + mark + ", 0, 0)", 1)
                .due("told(0, " + mark + ", 1999, 0)", 1).due("told(0, " + mark + ", 2000, 0)", 2);
    }

    private static void ofOneDayTheLastTold(int mark) {
        new Run("KEPT: of those of one DAY the one told last", "born(5, 10)", "mark(0, " + mark + ", 20, 3)",
                "mark(0, " + mark + ", 21, 9)", "mark(0, " + mark + ", 20, 1)", "mark(0, " + mark + ", 20, 2)")
                .due("told(0, " + mark + ", 19, 0)", 100).due("told(0, " + mark + ", 20, 0)", 2)
                .due("told(0, " + mark + ", 21, 0)", 9).tell("day(1)", "mark(0, " + mark + ", 20, 0)")
                .due("told(0, " + mark + ", 20, 0)", 2).due("told(0, " + mark + ", 20, 1)", 0)
                .due("told(0, " + mark + ", 21, 1)", 9);
    }

    private static void toldByThen() {
        for (int mark = 0; mark < 4; mark++) {
            new Run("of what was told by then (and not undone by then), MARK " + mark, "born(5, 10)", "day(4)",
                    "mark(0, " + mark + ", 0, 1)", "load()", "day(8)", "undo(0)", "day(12)",
                    "mark(0, " + mark + ", 0, 2)").due("told(0, " + mark + ", 10, 3)", 100)
                    .due("told(0, " + mark + ", 10, 4)", 1).due("told(0, " + mark + ", 10, 5)", 1)
                    .due("told(0, " + mark + ", 10, 7)", 1).due("told(0, " + mark + ", 10, 8)", 100)
                    .due("told(0, " + mark + ", 10, 9)", 100).due("told(0, " + mark + ", 10, 11)", 100)
                    .due("told(0, " + mark + ", 10, 12)", 2).due("told(0, " + mark + ", 10, 2000)", 2);
        }
    }
}
