/** Promise 16, by: "TOTAL by a DAY likewise." */
public final class Promise16Test {
    public static void main(String[] args) {
        markedOnThatDay();
        itStaysWhereItLives();
        marks();
        values();
        days();
        knownDays();
        thoseThatWait();
        factsKnownByThen();
        markedByThen();
        splitKnownByThen();
        joinKnownByThen();
        toADayAheadOfItsNews();
        leastAndMost();
        Check.finish();
    }

    private static void markedOnThatDay() {
        new Run("on a THING whose MARK m on D has it", "born(5, 0)", "mark(0, 2, 20, 7)", "mark(0, 2, 30, 8)",
                "fact(5, 10, 1)", "fact(5, 25, 10)", "fact(5, 40, 100)").due("by(2, 100, 19, 0)", 111)
                .due("by(2, 7, 19, 0)", 0).due("by(2, 7, 20, 0)", 111).due("by(2, 100, 20, 0)", 0)
                .due("by(2, 7, 29, 0)", 111).due("by(2, 8, 29, 0)", 0).due("by(2, 8, 30, 0)", 111)
                .due("by(2, 7, 30, 0)", 0).due("by(3, 100, 30, 0)", 111).due("by(2, 8, 2000, 0)", 111)
                .due("by(2, 100, 0, 0)", 111);
    }

    private static void itStaysWhereItLives() {
        new Run("if that lives on D it stays", "born(5, 10)", "fact(5, 15, 6)", "ends(0, 20)")
                .due("by(2, 100, 9, 0)", 0).due("by(2, 100, 10, 0)", 6).due("by(2, 100, 14, 0)", 6)
                .due("by(2, 100, 15, 0)", 6).due("by(2, 100, 16, 0)", 6).due("by(2, 100, 19, 0)", 6)
                .due("by(2, 100, 20, 0)", 0).due("by(2, 100, 21, 0)", 0);
    }

    private static void marks() {
        new Run("MARKS 0 to 3", "born(5, 0)", "fact(5, 10, 6)").due("by(-1, 100, 10, 0)", 0)
                .due("by(0, 100, 10, 0)", 6).due("by(1, 100, 10, 0)", 6).due("by(2, 100, 10, 0)", 6)
                .due("by(3, 100, 10, 0)", 6).due("by(4, 100, 10, 0)", 0).due("by(5, 100, 10, 0)", 0)
                .due("by(min, 100, 10, 0)", 0).due("by(max, 100, 10, 0)", 0);
    }

    private static void values() {
        new Run("VALUES 0 to 99 (100: nothing is told)", "born(5, 0)", "born(6, 0)", "born(7, 0)", "mark(0, 1, 0, 0)",
                "mark(1, 1, 0, 99)", "fact(5, 10, 1)", "fact(6, 10, 10)", "fact(7, 10, 100)")
                .due("by(1, -1, 10, 0)", 0).due("by(1, 0, 10, 0)", 1).due("by(1, 1, 10, 0)", 0)
                .due("by(1, 98, 10, 0)", 0).due("by(1, 99, 10, 0)", 10).due("by(1, 100, 10, 0)", 100)
                .due("by(1, 101, 10, 0)", 0).due("by(1, min, 10, 0)", 0).due("by(1, max, 10, 0)", 0);
    }

    private static void days() {
        new Run("DAYS 0 to 2,000", "born(5, 0)", "fact(5, 10, 6)").due("by(1, 100, -1, 0)", 0)
                .due("by(1, 100, 0, 0)", 6).due("by(1, 100, 1, 0)", 6).due("by(1, 100, 1999, 0)", 6)
                .due("by(1, 100, 2000, 0)", 6).due("by(1, 100, 2001, 0)", 0).due("by(1, 100, min, 0)", 0)
                .due("by(1, 100, max, 0)", 0);
    }

    private static void knownDays() {
        new Run("as KNOWN on a DAY 0 to 2,000", "born(5, 0)", "fact(5, 10, 6)").due("by(1, 100, 10, -1)", 0)
                .due("by(1, 100, 10, 0)", 6).due("by(1, 100, 10, 1)", 6).due("by(1, 100, 10, 1999)", 6)
                .due("by(1, 100, 10, 2000)", 6).due("by(1, 100, 10, 2001)", 0).due("by(1, 100, 10, min)", 0)
                .due("by(1, 100, 10, max)", 0);
    }

    private static void thoseThatWait() {
        new Run("all that hang: not those that WAIT", "born(5, 10)", "ends(0, 20)", "fact(5, 9, 1)", "fact(5, 10, 2)",
                "fact(5, 19, 4)", "fact(5, 20, 8)", "fact(6, 15, 16)").due("by(2, 100, 15, 0)", 6)
                .due("by(2, 100, 9, 0)", 0).due("by(2, 100, 20, 0)", 0);
    }

    private static void factsKnownByThen() {
        new Run("the FACTS KNOWN by k", "born(5, 0)", "day(4)", "fact(5, 10, 6)", "load()", "fact(5, 10, 1)", "day(8)",
                "undo(0)", "day(9)").due("by(2, 100, 10, 3)", 0).due("by(2, 100, 10, 4)", 7)
                .due("by(2, 100, 10, 7)", 7).due("by(2, 100, 10, 8)", 1).due("by(2, 100, 10, 2000)", 1);
    }

    private static void markedByThen() {
        new Run("the MARK as KNOWN on k", "born(5, 0)", "fact(5, 10, 6)", "load()", "day(4)", "mark(0, 2, 10, 7)",
                "load()", "day(8)", "undo(1)").due("by(2, 100, 10, 3)", 6).due("by(2, 7, 10, 3)", 0)
                .due("by(2, 7, 10, 4)", 6).due("by(2, 7, 9, 4)", 0).due("by(2, 7, 10, 7)", 6)
                .due("by(2, 7, 10, 8)", 0).due("by(2, 100, 10, 8)", 6);
    }

    private static void splitKnownByThen() {
        new Run("SPLIT by D, as KNOWN on k", "born(5, 0)", "fact(5, 10, 7)", "mark(0, 1, 0, 3)", "day(4)",
                "split(0, 20, 6, 7, 1, 2)", "mark(1, 1, 0, 4)", "mark(2, 1, 0, 5)").due("by(1, 3, 20, 3)", 7)
                .due("by(1, 4, 20, 3)", 0).due("by(1, 3, 19, 4)", 7).due("by(1, 4, 19, 4)", 0)
                .due("by(1, 3, 20, 4)", 0).due("by(1, 4, 20, 4)", 3).due("by(1, 5, 20, 4)", 4)
                .due("by(1, 4, 21, 4)", 3).due("by(1, 5, 2000, 4)", 4).due("by(1, 100, 20, 4)", 0);
    }

    private static void joinKnownByThen() {
        new Run("JOINED by D, as KNOWN on k", "born(5, 0)", "born(6, 0)", "fact(5, 10, 7)", "fact(6, 10, 40)",
                "mark(0, 1, 0, 3)", "day(4)", "join(0, 1, 20, 8)", "mark(2, 1, 0, 4)").due("by(1, 3, 20, 3)", 7)
                .due("by(1, 100, 20, 3)", 40).due("by(1, 4, 20, 3)", 0).due("by(1, 3, 19, 4)", 7)
                .due("by(1, 100, 19, 4)", 40).due("by(1, 4, 19, 4)", 0).due("by(1, 3, 20, 4)", 0)
                .due("by(1, 100, 20, 4)", 0).due("by(1, 4, 20, 4)", 47).due("by(1, 4, 21, 4)", 47)
                .due("by(1, 4, 2000, 4)", 47);
    }

    private static void toADayAheadOfItsNews() {
        new Run("CARRIED to a DAY ahead of the DAY of its news", "day(30)", "born(5, 0)", "fact(5, 5, 7)",
                "mark(0, 1, 0, 3)", "day(40)", "split(0, 10, 6, 7, 1, 2)", "mark(1, 1, 0, 4)", "mark(2, 1, 0, 5)")
                .due("by(1, 3, 20, 29)", 0).due("by(1, 3, 20, 30)", 7).due("by(1, 3, 0, 30)", 7)
                .due("by(1, 3, 35, 39)", 7).due("by(1, 3, 20, 39)", 7).due("by(1, 4, 20, 39)", 0)
                .due("by(1, 4, 20, 40)", 3).due("by(1, 5, 20, 40)", 4).due("by(1, 3, 9, 40)", 7)
                .due("by(1, 4, 10, 40)", 3).due("by(1, 4, 50, 40)", 3).due("by(1, 3, 50, 39)", 7);
    }

    private static void leastAndMost() {
        new Run("200 FACTS of 10,000", "born(5, 0)").tellEach(0, 200, i -> "fact(5, 10, 10000)")
                .due("by(0, 100, 10, 0)", 2000000).tell("split(0, 20, 6, 7, 99, 100)", "mark(1, 1, 0, 1)")
                .due("by(1, 1, 20, 0)", 1980000).due("by(1, 100, 20, 0)", 20000).due("by(0, 100, 20, 0)", 2000000);
        new Run("200 FACTS of -10,000", "born(5, 0)").tellEach(0, 200, i -> "fact(5, 10, -10000)")
                .due("by(0, 100, 10, 0)", -2000000).tell("split(0, 20, 6, 7, 99, 100)", "mark(1, 1, 0, 1)")
                .due("by(1, 1, 20, 0)", -1980000).due("by(1, 100, 20, 0)", -20000)
                .due("by(0, 100, 20, 0)", -2000000);
    }
}
