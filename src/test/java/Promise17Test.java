/**
 * Promise 17, sum: "As KNOWN on a DAY: the sum of all FACTS (what 0), of those that WAIT (1), of what is NOWHERE when
 * CARRIED to a DAY (2). 0: not as told."
 */
public final class Promise17Test {
    public static void main(String[] args) {
        whats();
        days();
        knownDays();
        allFacts();
        thoseThatWait();
        waitingAsKnown();
        nowhereAheadOfBirth();
        nowhereFromTheEnd();
        nowhereAsKnown();
        nowhereOfParts();
        onADayAheadOfItsNews();
        whoWaitsIsNotNowhere();
        leastAndMost();
        Check.finish();
    }

    /** All is 7, of which 2 wait and 1 is nowhere on day 10. */
    private static Run three(String sentence) {
        return new Run(sentence, "born(5, 0)", "born(6, 11)", "fact(5, 20, 4)", "fact(6, 20, 1)", "fact(7, 20, 2)");
    }

    private static void whats() {
        three("what 0 to 2").due("sum(-1, 10, 0)", 0).due("sum(0, 10, 0)", 7).due("sum(1, 10, 0)", 2)
                .due("sum(2, 10, 0)", 1).due("sum(3, 10, 0)", 0).due("sum(4, 10, 0)", 0).due("sum(min, 10, 0)", 0)
                .due("sum(max, 10, 0)", 0);
    }

    private static void days() {
        int[] due = {7, 2, 1};
        int[] dueAtTheEnd = {7, 2, 0};
        for (int what = 0; what < 3; what++) {
            three("DAYS 0 to 2,000").due("sum(" + what + ", -1, 0)", 0).due("sum(" + what + ", 0, 0)", due[what])
                    .due("sum(" + what + ", 1, 0)", due[what]).due("sum(" + what + ", 1999, 0)", dueAtTheEnd[what])
                    .due("sum(" + what + ", 2000, 0)", dueAtTheEnd[what]).due("sum(" + what + ", 2001, 0)", 0)
                    .due("sum(" + what + ", min, 0)", 0).due("sum(" + what + ", max, 0)", 0);
        }
        new Run("DAYS up to 2,000, NOWHERE", "born(5, 0)", "fact(5, 0, 6)", "ends(0, 2000)").due("sum(2, 1999, 0)", 0)
                .due("sum(2, 2000, 0)", 6).due("sum(2, 2001, 0)", 0).due("sum(2, -1, 0)", 0);
    }

    private static void knownDays() {
        int[] due = {7, 2, 1};
        for (int what = 0; what < 3; what++) {
            three("as KNOWN on a DAY 0 to 2,000").due("sum(" + what + ", 10, -1)", 0)
                    .due("sum(" + what + ", 10, 0)", due[what]).due("sum(" + what + ", 10, 1)", due[what])
                    .due("sum(" + what + ", 10, 1999)", due[what]).due("sum(" + what + ", 10, 2000)", due[what])
                    .due("sum(" + what + ", 10, 2001)", 0).due("sum(" + what + ", 10, min)", 0)
                    .due("sum(" + what + ", 10, max)", 0);
        }
    }

    private static void allFacts() {
        new Run("the sum of all FACTS, as KNOWN", "day(4)", "fact(5, 10, 6)", "load()", "day(6)", "fact(5, 10, -10)",
                "day(8)", "undo(0)", "day(9)").due("sum(0, 0, 3)", 0).due("sum(0, 0, 4)", 6).due("sum(0, 0, 5)", 6)
                .due("sum(0, 0, 6)", -4).due("sum(0, 0, 7)", -4).due("sum(0, 0, 8)", -10)
                .due("sum(0, 0, 2000)", -10);
    }

    private static void thoseThatWait() {
        new Run("of those that WAIT", "born(5, 10)", "ends(0, 20)", "fact(5, 9, 1)", "fact(5, 10, 2)", "fact(5, 19, 4)",
                "fact(5, 20, 8)", "fact(6, 15, 16)").due("sum(1, 0, 0)", 25).due("sum(1, 15, 0)", 25)
                .due("sum(1, 2000, 0)", 25).due("sum(0, 15, 0)", 31);
    }

    private static void waitingAsKnown() {
        new Run("of those that WAIT, as KNOWN", "day(4)", "fact(5, 10, 6)", "fact(6, 10, 3)", "load()", "day(6)",
                "born(5, 10)", "day(8)", "ends(0, 11)", "day(10)", "undo(0)").due("sum(1, 10, 3)", 0)
                .due("sum(1, 10, 4)", 9).due("sum(1, 10, 5)", 9).due("sum(1, 10, 6)", 3).due("sum(1, 10, 8)", 3)
                .due("sum(1, 10, 9)", 3).due("sum(1, 10, 10)", 0);
        new Run("it WAITS again as its THING ENDS ahead of it", "born(5, 10)", "fact(5, 20, 6)", "day(4)",
                "ends(0, 20)").due("sum(1, 0, 3)", 0).due("sum(1, 0, 4)", 6);
    }

    private static void nowhereAheadOfBirth() {
        new Run("D is ahead of its BIRTH: NOWHERE", "born(5, 10)", "fact(5, 15, 6)").due("sum(2, 0, 0)", 6)
                .due("sum(2, 9, 0)", 6).due("sum(2, 10, 0)", 0).due("sum(2, 11, 0)", 0).due("sum(2, 2000, 0)", 0);
        new Run("D is ahead of the BIRTH of one that was SPLIT", "born(5, 10)", "fact(5, 15, 6)",
                "split(0, 20, 6, 7, 1, 2)").due("sum(2, 9, 0)", 6).due("sum(2, 10, 0)", 0).due("sum(2, 20, 0)", 0);
        new Run("D is ahead of the BIRTH of a part: not back to what it comes from", "born(5, 10)",
                "split(0, 20, 6, 7, 1, 2)", "fact(6, 25, 6)").due("sum(2, 19, 0)", 6).due("by(2, 100, 19, 0)", 0)
                .due("sum(2, 20, 0)", 0).due("by(2, 100, 20, 0)", 6);
        new Run("D is ahead of the BIRTH of a JOINED one", "born(5, 10)", "born(6, 10)", "join(0, 1, 20, 7)",
                "fact(7, 25, 6)").due("sum(2, 19, 0)", 6).due("by(2, 100, 19, 0)", 0).due("sum(2, 20, 0)", 0);
    }

    private static void nowhereFromTheEnd() {
        new Run("else (it ENDED) it's NOWHERE", "born(5, 10)", "fact(5, 15, 6)", "ends(0, 20)").due("sum(2, 19, 0)", 0)
                .due("sum(2, 20, 0)", 6).due("sum(2, 21, 0)", 6).due("sum(2, 2000, 0)", 6)
                .tell("born(5, 20)").due("sum(2, 20, 0)", 6).due("by(2, 100, 20, 0)", 0);
    }

    private static void nowhereAsKnown() {
        new Run("NOWHERE, as KNOWN on k", "born(5, 10)", "fact(5, 15, 6)", "load()", "day(4)", "ends(0, 20)", "day(8)",
                "undo(0)").due("sum(2, 20, 3)", 0).due("sum(2, 20, 4)", 6).due("sum(2, 20, 7)", 6)
                .due("sum(2, 20, 8)", 0).due("sum(2, 9, 3)", 6).due("sum(2, 9, 8)", 0);
    }

    private static void nowhereOfParts() {
        new Run("a part of it is NOWHERE", "born(5, 10)", "fact(5, 15, 7)", "split(0, 20, 6, 7, 1, 2)", "ends(1, 30)",
                "ends(2, 40)").due("sum(2, 20, 0)", 0).due("sum(2, 29, 0)", 0).due("sum(2, 30, 0)", 3)
                .due("sum(2, 39, 0)", 3).due("sum(2, 40, 0)", 7).due("by(2, 100, 30, 0)", 4)
                .due("by(2, 100, 40, 0)", 0);
        new Run("all of what was JOINED is NOWHERE", "born(5, 10)", "born(6, 10)", "fact(5, 15, 7)", "fact(6, 15, -2)",
                "join(0, 1, 20, 7)", "ends(2, 30)").due("sum(2, 29, 0)", 0).due("sum(2, 30, 0)", 5);
    }

    private static void onADayAheadOfItsNews() {
        new Run("CARRIED to a DAY ahead of the DAY of its news", "day(30)", "born(5, 10)", "fact(5, 15, 6)", "day(40)",
                "ends(0, 20)").due("sum(2, 9, 30)", 6).due("sum(2, 10, 30)", 0).due("sum(2, 25, 30)", 0)
                .due("sum(2, 9, 29)", 0).due("sum(2, 25, 39)", 0).due("sum(2, 25, 40)", 6)
                .due("sum(2, 19, 40)", 0).due("sum(2, 45, 39)", 0).due("sum(0, 9, 29)", 0)
                .due("sum(0, 9, 30)", 6).due("sum(1, 9, 30)", 0);
    }

    private static void whoWaitsIsNotNowhere() {
        new Run("an amount that hangs: who WAITS isn't NOWHERE", "fact(5, 15, 6)").due("sum(2, 0, 0)", 0)
                .due("sum(2, 15, 0)", 0).due("sum(1, 15, 0)", 6);
    }

    private static void leastAndMost() {
        new Run("200 FACTS of 10,000", "born(5, 10)").tellEach(0, 200, i -> "fact(5, 10, 10000)")
                .due("sum(0, 0, 0)", 2000000).due("sum(1, 0, 0)", 0).due("sum(2, 9, 0)", 2000000);
        new Run("200 FACTS of -10,000 that WAIT").tellEach(0, 200, i -> "fact(5, 10, -10000)")
                .due("sum(0, 0, 0)", -2000000).due("sum(1, 0, 0)", -2000000).due("sum(2, 9, 0)", 0);
    }
}
