/**
 * Promise 5, split: "A SPLIT: the first part's number (the second's is one more). -2, doing nothing: not as told (also
 * as ends(); CODES alike); -3: as born() for one of both CODES (the THING that is SPLIT ENDS first); -4: 39 or 40 are
 * there."
 */
public final class Promise05Test {
    public static void main(String[] args) {
        theNumbers();
        codes();
        codesAlike();
        sharesOfQ();
        wholes();
        asEndsNoneSuch();
        asEndsItHasAnEnd();
        asEndsTheDay();
        oneOfBothLives();
        anyOtherThingLives();
        oneOfBothIsBornBehind();
        oneOfBothHasEnded();
        theThingEndsFirst();
        thirtyNineOrFortyAreThere();
        theFirstReasonCounts();
        knownFromToday();
        Check.finish();
    }

    private static void theNumbers() {
        new Run("the first part's number (the second's is one more)", "born(5, 10)", "born(6, 10)")
                .due("split(0, 20, 7, 8, 1, 2)", 2).due("count(1)", 4).due("thing(2, 0, 0)", 7)
                .due("thing(3, 0, 0)", 8).due("thing(2, 0, 1)", 20).due("thing(3, 0, 1)", 20)
                .due("thing(2, 0, 2)", 2001).due("thing(3, 0, 2)", 2001).due("thing(0, 0, 2)", 20)
                .due("thing(0, 0, 3)", 2).due("thing(0, 0, 4)", 2).due("thing(1, 0, 2)", 2001)
                .due("split(3, 21, 9, 10, 1, 2)", 4).due("thing(3, 0, 4)", 4).due("thing(4, 0, 0)", 9)
                .due("thing(5, 0, 0)", 10);
    }

    private static void codes() {
        new Run("CODES 0 to 99: the first", "born(5, 10)", "born(6, 10)").refused("split(0, 20, -1, 7, 1, 2)", -2)
                .refused("split(0, 20, 100, 7, 1, 2)", -2).refused("split(0, 20, min, 7, 1, 2)", -2)
                .refused("split(0, 20, max, 7, 1, 2)", -2).due("split(0, 20, 0, 7, 1, 2)", 2)
                .due("split(1, 20, 99, 8, 1, 2)", 4).due("thing(2, 0, 0)", 0).due("thing(4, 0, 0)", 99);
        new Run("CODES 0 to 99: the second", "born(5, 10)", "born(6, 10)").refused("split(0, 20, 7, -1, 1, 2)", -2)
                .refused("split(0, 20, 7, 100, 1, 2)", -2).refused("split(0, 20, 7, min, 1, 2)", -2)
                .refused("split(0, 20, 7, max, 1, 2)", -2).due("split(0, 20, 7, 0, 1, 2)", 2)
                .due("split(1, 20, 8, 99, 1, 2)", 4).due("thing(3, 0, 0)", 0).due("thing(5, 0, 0)", 99);
    }

    private static void codesAlike() {
        new Run("CODES alike", "born(5, 10)").refused("split(0, 20, 7, 7, 1, 2)", -2)
                .refused("split(0, 20, 5, 5, 1, 2)", -2).refused("split(0, 20, 0, 0, 1, 2)", -2)
                .refused("split(0, 20, 99, 99, 1, 2)", -2).due("split(0, 20, 7, 8, 1, 2)", 1);
        new Run("CODES that are neighbours", "born(5, 10)").due("split(0, 20, 8, 7, 1, 2)", 1);
    }

    private static void sharesOfQ() {
        new Run("p 0 to q, q 2", "born(5, 10)", "born(6, 10)", "born(7, 10)")
                .refused("split(0, 20, 11, 12, -1, 2)", -2).refused("split(0, 20, 11, 12, 3, 2)", -2)
                .refused("split(0, 20, 11, 12, min, 2)", -2).refused("split(0, 20, 11, 12, max, 2)", -2)
                .due("split(0, 20, 11, 12, 0, 2)", 3).due("split(1, 20, 13, 14, 1, 2)", 5)
                .due("split(2, 20, 15, 16, 2, 2)", 7);
        new Run("p 0 to q, q 100", "born(5, 10)", "born(6, 10)", "born(7, 10)")
                .refused("split(0, 20, 11, 12, -1, 100)", -2).refused("split(0, 20, 11, 12, 101, 100)", -2)
                .due("split(0, 20, 11, 12, 99, 100)", 3).due("split(1, 20, 13, 14, 100, 100)", 5)
                .due("split(2, 20, 15, 16, 0, 100)", 7);
    }

    private static void wholes() {
        new Run("q 1 to 100", "born(5, 10)", "born(6, 10)", "born(7, 10)", "born(8, 10)")
                .refused("split(0, 20, 11, 12, 0, 0)", -2).refused("split(0, 20, 11, 12, 1, 0)", -2)
                .refused("split(0, 20, 11, 12, 0, -1)", -2).refused("split(0, 20, 11, 12, -1, -1)", -2)
                .refused("split(0, 20, 11, 12, -2, -1)", -2).refused("split(0, 20, 11, 12, 0, 101)", -2)
                .refused("split(0, 20, 11, 12, 1, 101)", -2).refused("split(0, 20, 11, 12, 101, 101)", -2)
                .refused("split(0, 20, 11, 12, 0, min)", -2).refused("split(0, 20, 11, 12, 1, max)", -2)
                .refused("split(0, 20, 11, 12, max, max)", -2).refused("split(0, 20, 11, 12, min, min)", -2)
                .refused("split(0, 20, 11, 12, 2, 1)", -2).due("split(0, 20, 11, 12, 0, 1)", 4)
                .due("split(1, 20, 13, 14, 1, 1)", 6).due("split(2, 20, 15, 16, 1, 99)", 8)
                .due("split(3, 20, 17, 18, 1, 100)", 10);
    }

    private static void asEndsNoneSuch() {
        new Run("as ends(): none such, of no THINGS").refused("split(0, 20, 7, 8, 1, 2)", -2)
                .refused("split(-1, 20, 7, 8, 1, 2)", -2);
        new Run("as ends(): none such", "born(5, 10)", "born(6, 10)").refused("split(-1, 20, 7, 8, 1, 2)", -2)
                .refused("split(2, 20, 7, 8, 1, 2)", -2).refused("split(40, 20, 7, 8, 1, 2)", -2)
                .refused("split(min, 20, 7, 8, 1, 2)", -2).refused("split(max, 20, 7, 8, 1, 2)", -2)
                .due("split(1, 20, 7, 8, 1, 2)", 2);
    }

    private static void asEndsItHasAnEnd() {
        new Run("as ends(): it has an END", "born(5, 10)", "ends(0, 20)").refused("split(0, 19, 7, 8, 1, 2)", -2)
                .refused("split(0, 20, 7, 8, 1, 2)", -2).refused("split(0, 21, 7, 8, 1, 2)", -2)
                .due("thing(0, 0, 3)", 1);
        new Run("as ends(): it has an END, on the last DAY", "born(5, 10)", "ends(0, 2000)")
                .refused("split(0, 20, 7, 8, 1, 2)", -2);
        new Run("as ends(): it was SPLIT", "born(5, 10)", "split(0, 20, 6, 7, 1, 2)")
                .refused("split(0, 20, 6, 7, 1, 2)", -2).refused("split(0, 30, 8, 9, 1, 2)", -2)
                .due("split(1, 21, 8, 9, 1, 2)", 3).due("split(2, 21, 10, 11, 1, 2)", 5);
        new Run("as ends(): it was JOINED", "born(5, 10)", "born(6, 10)", "join(0, 1, 20, 7)")
                .refused("split(0, 30, 8, 9, 1, 2)", -2).refused("split(1, 30, 8, 9, 1, 2)", -2)
                .due("split(2, 21, 8, 9, 1, 2)", 3);
    }

    private static void asEndsTheDay() {
        new Run("as ends(): the DAY isn't behind its BIRTH", "born(5, 10)").refused("split(0, 9, 7, 8, 1, 2)", -2)
                .refused("split(0, 10, 7, 8, 1, 2)", -2).refused("split(0, 0, 7, 8, 1, 2)", -2)
                .refused("split(0, -1, 7, 8, 1, 2)", -2).refused("split(0, min, 7, 8, 1, 2)", -2)
                .due("split(0, 11, 7, 8, 1, 2)", 1).refused("split(1, 11, 9, 12, 1, 2)", -2)
                .due("split(1, 12, 9, 12, 1, 2)", 3);
        new Run("as ends(): DAYS up to 2,000", "born(5, 10)", "born(6, 2000)", "born(7, 10)")
                .refused("split(0, 2001, 8, 9, 1, 2)", -2).refused("split(0, max, 8, 9, 1, 2)", -2)
                .refused("split(1, 2000, 8, 9, 1, 2)", -2).refused("split(1, 2001, 8, 9, 1, 2)", -2)
                .due("split(0, 2000, 8, 9, 1, 2)", 3).due("split(2, 1999, 10, 11, 1, 2)", 5);
    }

    private static void oneOfBothLives() {
        new Run("-3: one of the first CODE lives", "born(5, 10)", "born(6, 20)").refused("split(0, 20, 6, 7, 1, 2)", -3)
                .refused("split(0, 21, 6, 7, 1, 2)", -3).refused("split(0, 2000, 6, 7, 1, 2)", -3);
        new Run("-3: one of the second CODE lives", "born(5, 10)", "born(6, 20)")
                .refused("split(0, 20, 7, 6, 1, 2)", -3).refused("split(0, 21, 7, 6, 1, 2)", -3)
                .refused("split(0, 2000, 7, 6, 1, 2)", -3);
        new Run("-3: both live", "born(5, 10)", "born(6, 10)", "born(7, 10)").refused("split(0, 20, 6, 7, 1, 2)", -3)
                .refused("split(0, 20, 5, 7, 1, 2)", -3).refused("split(0, 20, 7, 5, 1, 2)", -3);
    }

    private static void anyOtherThingLives() {
        new Run("-3: of all other THINGS, with smaller numbers and with greater ones", "born(6, 10)", "born(5, 10)",
                "born(7, 10)").refused("split(1, 20, 6, 8, 1, 2)", -3).refused("split(1, 20, 8, 6, 1, 2)", -3)
                .refused("split(1, 20, 7, 8, 1, 2)", -3).refused("split(1, 20, 8, 7, 1, 2)", -3)
                .refused("split(0, 20, 5, 8, 1, 2)", -3).refused("split(2, 20, 8, 6, 1, 2)", -3)
                .due("split(1, 20, 8, 9, 1, 2)", 3);
    }

    private static void oneOfBothIsBornBehind() {
        new Run("-3: one of both CODES is born behind it", "born(5, 10)", "born(6, 20)", "ends(1, 30)")
                .refused("split(0, 19, 6, 7, 1, 2)", -3).refused("split(0, 19, 7, 6, 1, 2)", -3)
                .refused("split(0, 11, 6, 7, 1, 2)", -3).refused("split(0, 11, 7, 6, 1, 2)", -3)
                .due("split(0, 11, 7, 8, 1, 2)", 2);
    }

    private static void oneOfBothHasEnded() {
        new Run("the first CODE's life has an END", "born(5, 10)", "born(6, 10)", "ends(1, 20)")
                .refused("split(0, 19, 6, 7, 1, 2)", -3).due("split(0, 20, 6, 7, 1, 2)", 2).due("find(6, 19, 0)", 1)
                .due("find(6, 20, 0)", 2);
        new Run("the second CODE's life has an END", "born(5, 10)", "born(6, 10)", "ends(1, 20)")
                .refused("split(0, 19, 7, 6, 1, 2)", -3).due("split(0, 20, 7, 6, 1, 2)", 2).due("find(6, 19, 0)", 1)
                .due("find(6, 20, 0)", 3);
    }

    private static void theThingEndsFirst() {
        new Run("the THING that is SPLIT ENDS first: its CODE is the first part's", "born(5, 10)")
                .due("split(0, 20, 5, 6, 1, 2)", 1).due("find(5, 19, 0)", 0).due("find(5, 20, 0)", 1)
                .refused("split(1, 20, 5, 7, 1, 2)", -2).due("split(1, 21, 5, 7, 1, 2)", 3)
                .due("find(5, 20, 0)", 1).due("find(5, 21, 0)", 3);
        new Run("the THING that is SPLIT ENDS first: its CODE is the second part's", "born(5, 10)")
                .due("split(0, 20, 6, 5, 1, 2)", 1).due("find(5, 19, 0)", 0).due("find(5, 20, 0)", 2);
    }

    private static void thirtyNineOrFortyAreThere() {
        new Run("-4: not with 38").tellEach(0, 38, i -> "born(" + i + ", 10)").due("split(0, 20, 50, 51, 1, 2)", 38)
                .due("count(1)", 40).due("thing(39, 0, 0)", 51).refused("split(1, 20, 52, 53, 1, 2)", -4);
        new Run("-4: with 39").tellEach(0, 39, i -> "born(" + i + ", 10)").refused("split(0, 20, 50, 51, 1, 2)", -4)
                .due("count(1)", 39).due("thing(0, 0, 2)", 2001).due("born(50, 10)", 39);
        new Run("-4: with 40").tellEach(0, 40, i -> "born(" + i + ", 10)").refused("split(0, 20, 50, 51, 1, 2)", -4)
                .refused("split(39, 20, 39, 51, 1, 2)", -4).due("count(1)", 40);
    }

    private static void theFirstReasonCounts() {
        new Run("-2 ahead of -3 ahead of -4").tellEach(0, 39, i -> "born(" + i + ", 10)")
                .refused("split(0, 10, 1, 2, 1, 2)", -2).refused("split(0, 20, 1, 1, 1, 2)", -2)
                .refused("split(0, 20, 1, 50, 3, 2)", -2).refused("split(0, 20, 1, 50, 1, 2)", -3)
                .refused("split(0, 20, 50, 1, 1, 2)", -3).refused("split(0, 20, 50, 51, 1, 2)", -4);
    }

    private static void knownFromToday() {
        new Run("ahead of that the old one lives on", "born(5, 10)", "day(30)", "split(0, 20, 6, 7, 1, 2)", "day(40)")
                .due("thing(0, 29, 2)", 2001).due("thing(0, 29, 3)", 0).due("thing(0, 29, 4)", -1)
                .due("thing(1, 29, 0)", -1).due("thing(2, 29, 0)", -1).due("find(5, 20, 29)", 0)
                .due("find(6, 20, 29)", -1).due("find(7, 20, 29)", -1).due("thing(0, 30, 2)", 20)
                .due("thing(0, 30, 3)", 2).due("thing(0, 30, 4)", 1).due("thing(1, 30, 0)", 6)
                .due("thing(2, 30, 0)", 7).due("find(5, 20, 30)", -1).due("find(5, 19, 30)", 0)
                .due("find(6, 20, 30)", 1).due("find(7, 20, 30)", 2).due("find(6, 19, 30)", -1);
    }
}
