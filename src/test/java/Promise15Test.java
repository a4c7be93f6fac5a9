/** Promise 15, then: "TOTAL by THEN of a MARK's VALUE (100: nothing is told) as KNOWN on a DAY. 0: not as told." */
public final class Promise15Test {
    public static void main(String[] args) {
        onTheFactsDay();
        marks();
        values();
        knownDays();
        thoseThatWait();
        knownByThen();
        markedByThen();
        livesKnownByThen();
        onADayAheadOfItsNews();
        notCarried();
        leastAndMost();
        Check.finish();
    }

    private static void onTheFactsDay() {
        new Run("a THING whose MARK m on the FACT's DAY has a VALUE", "born(5, 0)", "mark(0, 2, 20, 7)",
                "mark(0, 2, 30, 8)", "fact(5, 19, 1)", "fact(5, 20, 10)", "fact(5, 29, 100)", "fact(5, 30, 1000)")
                .due("then(2, 100, 0)", 1).due("then(2, 7, 0)", 110).due("then(2, 8, 0)", 1000)
                .due("then(2, 6, 0)", 0).due("then(2, 9, 0)", 0).due("then(3, 100, 0)", 1111)
                .due("then(3, 7, 0)", 0);
        new Run("MARKS 0 and 1 are so on all DAYS", "born(5, 0)", "mark(0, 0, 20, 7)", "mark(0, 1, 20, 8)",
                "mark(0, 1, 30, 9)", "fact(5, 0, 1)", "fact(5, 19, 10)", "fact(5, 2000, 100)").due("then(0, 7, 0)", 111)
                .due("then(1, 9, 0)", 111).due("then(1, 8, 0)", 0).due("then(0, 100, 0)", 0);
    }

    private static void marks() {
        new Run("MARKS 0 to 3", "born(5, 0)", "fact(5, 10, 6)").due("then(-1, 100, 0)", 0).due("then(0, 100, 0)", 6)
                .due("then(1, 100, 0)", 6).due("then(2, 100, 0)", 6).due("then(3, 100, 0)", 6)
                .due("then(4, 100, 0)", 0).due("then(5, 100, 0)", 0).due("then(min, 100, 0)", 0)
                .due("then(max, 100, 0)", 0);
    }

    private static void values() {
        new Run("VALUES 0 to 99 (100: nothing is told)", "born(5, 0)", "born(6, 0)", "born(7, 0)", "mark(0, 1, 0, 0)",
                "mark(1, 1, 0, 99)", "fact(5, 10, 1)", "fact(6, 10, 10)", "fact(7, 10, 100)").due("then(1, -1, 0)", 0)
                .due("then(1, 0, 0)", 1).due("then(1, 1, 0)", 0).due("then(1, 98, 0)", 0).due("then(1, 99, 0)", 10)
                .due("then(1, 100, 0)", 100).due("then(1, 101, 0)", 0).due("then(1, min, 0)", 0)
                .due("then(1, max, 0)", 0);
    }

    private static void knownDays() {
        new Run("as KNOWN on a DAY 0 to 2,000", "born(5, 0)", "fact(5, 10, 6)").due("then(1, 100, -1)", 0)
                .due("then(1, 100, 0)", 6).due("then(1, 100, 1)", 6).due("then(1, 100, 1999)", 6)
                .due("then(1, 100, 2000)", 6).due("then(1, 100, 2001)", 0).due("then(1, 100, min)", 0)
                .due("then(1, 100, max)", 0);
    }

    private static void thoseThatWait() {
        new Run("FACTS that hang: not those that WAIT", "born(5, 10)", "ends(0, 20)", "fact(5, 9, 1)", "fact(5, 10, 2)",
                "fact(5, 19, 4)", "fact(5, 20, 8)", "fact(6, 15, 16)").due("then(2, 100, 0)", 6)
                .due("then(2, 0, 0)", 0);
    }

    private static void knownByThen() {
        new Run("the FACTS (KNOWN by k)", "born(5, 0)", "day(4)", "fact(5, 10, 6)", "load()", "fact(5, 10, 1)",
                "day(8)", "undo(0)", "day(9)").due("then(2, 100, 3)", 0).due("then(2, 100, 4)", 7)
                .due("then(2, 100, 5)", 7).due("then(2, 100, 7)", 7).due("then(2, 100, 8)", 1).due("then(2, 100, 9)", 1)
                .due("then(2, 100, 2000)", 1);
    }

    private static void markedByThen() {
        new Run("the MARK as KNOWN on k", "born(5, 0)", "fact(5, 10, 6)", "load()", "day(4)", "mark(0, 2, 10, 7)",
                "load()", "day(8)", "undo(1)").due("then(2, 100, 3)", 6).due("then(2, 7, 3)", 0)
                .due("then(2, 100, 4)", 0).due("then(2, 7, 4)", 6).due("then(2, 7, 7)", 6).due("then(2, 7, 8)", 0)
                .due("then(2, 100, 8)", 6);
    }

    private static void livesKnownByThen() {
        new Run("the THING as KNOWN on k", "fact(5, 10, 6)", "day(4)", "born(5, 0)", "mark(0, 1, 0, 7)", "day(8)",
                "split(0, 10, 5, 6, 1, 2)", "mark(1, 1, 0, 9)").due("then(1, 7, 3)", 0).due("then(1, 100, 3)", 0)
                .due("then(1, 7, 4)", 6).due("then(1, 7, 7)", 6).due("then(1, 7, 8)", 0).due("then(1, 9, 8)", 6)
                .due("then(1, 9, 7)", 0);
    }

    private static void onADayAheadOfItsNews() {
        new Run("FACTS of a DAY ahead of the DAY of their news", "day(30)", "born(5, 10)", "mark(0, 2, 15, 7)",
                "fact(5, 14, 1)", "fact(5, 15, 10)", "fact(5, 35, 100)").due("then(2, 7, 30)", 110)
                .due("then(2, 100, 30)", 1).due("then(2, 7, 29)", 0).due("then(2, 100, 29)", 0)
                .due("then(2, 7, 35)", 110);
    }

    private static void notCarried() {
        new Run("by then's THING, not by its heirs", "born(5, 0)", "born(6, 0)", "fact(5, 10, 7)", "fact(6, 10, 40)",
                "mark(0, 1, 0, 3)", "split(0, 11, 7, 8, 1, 2)", "join(1, 2, 20, 9)", "mark(2, 1, 0, 4)",
                "mark(3, 1, 0, 5)", "mark(4, 1, 0, 6)").due("then(1, 3, 0)", 7).due("then(1, 4, 0)", 0)
                .due("then(1, 5, 0)", 0).due("then(1, 6, 0)", 0).due("then(1, 100, 0)", 40);
    }

    private static void leastAndMost() {
        new Run("200 FACTS of 10,000", "born(5, 0)").tellEach(0, 200, i -> "fact(5, 10, 10000)")
                .due("then(0, 100, 0)", 2000000);
        new Run("200 FACTS of -10,000", "born(5, 0)").tellEach(0, 200, i -> "fact(5, 10, -10000)")
                .due("then(0, 100, 0)", -2000000);
    }
}
