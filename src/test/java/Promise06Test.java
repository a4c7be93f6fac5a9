/** Promise 6, join: "JOINED: the new one's number. -2, -3, -4 likewise (two unlike THINGS)." */
public final class Promise06Test {
    public static void main(String[] args) {
        theNumber();
        twoUnlikeThings();
        codes();
        noneSuch();
        oneHasAnEnd();
        theDay();
        theCodeLives();
        anyOtherThingLives();
        theCodeIsBornBehind();
        bothEndFirst();
        fortyAreThere();
        theFirstReasonCounts();
        knownFromToday();
        Check.finish();
    }

    private static void theNumber() {
        new Run("the new one's number", "born(5, 10)", "born(6, 12)", "born(7, 10)").due("join(0, 1, 20, 8)", 3)
                .due("count(1)", 4).due("thing(3, 0, 0)", 8).due("thing(3, 0, 1)", 20).due("thing(3, 0, 2)", 2001)
                .due("thing(0, 0, 2)", 20).due("thing(1, 0, 2)", 20).due("thing(0, 0, 3)", 3)
                .due("thing(1, 0, 3)", 3).due("thing(0, 0, 4)", 3).due("thing(1, 0, 4)", 3)
                .due("thing(2, 0, 2)", 2001).due("thing(2, 0, 3)", 0).due("join(3, 2, 21, 9)", 4);
    }

    private static void twoUnlikeThings() {
        new Run("two unlike THINGS", "born(5, 10)", "born(6, 10)").refused("join(0, 0, 20, 8)", -2)
                .refused("join(1, 1, 20, 8)", -2).refused("join(0, 0, 20, 5)", -2).due("join(1, 0, 20, 8)", 2);
    }

    private static void codes() {
        new Run("a CODE 0 to 99", "born(5, 10)", "born(6, 10)", "born(7, 10)").refused("join(0, 1, 20, -1)", -2)
                .refused("join(0, 1, 20, 100)", -2).refused("join(0, 1, 20, min)", -2)
                .refused("join(0, 1, 20, max)", -2).due("join(0, 1, 20, 0)", 3).due("join(2, 3, 21, 99)", 4)
                .due("thing(3, 0, 0)", 0).due("thing(4, 0, 0)", 99);
    }

    private static void noneSuch() {
        new Run("none such, of no THINGS").refused("join(0, 1, 20, 8)", -2).refused("join(-1, -2, 20, 8)", -2);
        new Run("none such: the first", "born(5, 10)", "born(6, 10)").refused("join(-1, 0, 20, 8)", -2)
                .refused("join(2, 0, 20, 8)", -2).refused("join(40, 0, 20, 8)", -2).refused("join(min, 0, 20, 8)", -2)
                .refused("join(max, 0, 20, 8)", -2).due("join(1, 0, 20, 8)", 2);
        new Run("none such: the second", "born(5, 10)", "born(6, 10)").refused("join(0, -1, 20, 8)", -2)
                .refused("join(0, 2, 20, 8)", -2).refused("join(0, 40, 20, 8)", -2).refused("join(0, min, 20, 8)", -2)
                .refused("join(0, max, 20, 8)", -2).due("join(0, 1, 20, 8)", 2);
    }

    private static void oneHasAnEnd() {
        new Run("one has an END", "born(5, 10)", "born(6, 10)", "born(7, 10)", "ends(1, 20)")
                .refused("join(0, 1, 19, 8)", -2).refused("join(1, 0, 19, 8)", -2).refused("join(0, 1, 20, 8)", -2)
                .refused("join(1, 0, 20, 8)", -2).refused("join(0, 1, 21, 8)", -2).refused("join(1, 0, 21, 8)", -2)
                .due("thing(0, 0, 2)", 2001).due("thing(1, 0, 3)", 1).due("join(0, 2, 20, 8)", 3);
        new Run("one was SPLIT or JOINED", "born(5, 10)", "born(6, 10)", "born(7, 10)", "born(8, 10)",
                "split(0, 20, 9, 10, 1, 2)", "join(1, 2, 20, 11)").refused("join(0, 3, 30, 12)", -2)
                .refused("join(3, 0, 30, 12)", -2).refused("join(1, 3, 30, 12)", -2)
                .refused("join(3, 2, 30, 12)", -2).refused("join(1, 2, 20, 11)", -2)
                .refused("join(0, 4, 30, 12)", -2).due("join(4, 6, 30, 12)", 7);
    }

    private static void theDay() {
        new Run("the DAY isn't behind the BIRTH of one", "born(5, 10)", "born(6, 15)").refused("join(0, 1, 15, 8)", -2)
                .refused("join(1, 0, 15, 8)", -2).refused("join(0, 1, 14, 8)", -2).refused("join(0, 1, 10, 8)", -2)
                .refused("join(1, 0, 11, 8)", -2).refused("join(0, 1, 0, 8)", -2).refused("join(0, 1, -1, 8)", -2)
                .refused("join(0, 1, min, 8)", -2).due("join(0, 1, 16, 8)", 2);
        new Run("the DAY is one behind the BIRTH of the second, the later", "born(5, 15)", "born(6, 10)")
                .refused("join(0, 1, 15, 8)", -2).refused("join(1, 0, 15, 8)", -2).due("join(1, 0, 16, 8)", 2);
        new Run("DAYS up to 2,000", "born(5, 10)", "born(6, 1999)", "born(7, 2000)").refused("join(0, 1, 2001, 8)", -2)
                .refused("join(0, 1, max, 8)", -2).refused("join(0, 2, 2000, 8)", -2)
                .refused("join(2, 0, 2001, 8)", -2).due("join(0, 1, 2000, 8)", 3);
    }

    private static void theCodeLives() {
        new Run("-3: one of its CODE lives on that DAY", "born(5, 10)", "born(6, 10)", "born(7, 20)", "ends(2, 30)")
                .refused("join(0, 1, 20, 7)", -3).refused("join(0, 1, 21, 7)", -3).refused("join(0, 1, 29, 7)", -3)
                .due("join(0, 1, 30, 7)", 3).due("find(7, 29, 0)", 2).due("find(7, 30, 0)", 3);
        new Run("-3: one of its CODE lives up to the last DAY", "born(5, 10)", "born(6, 10)", "born(7, 20)")
                .refused("join(0, 1, 2000, 7)", -3).due("join(0, 1, 2000, 8)", 3);
    }

    private static void anyOtherThingLives() {
        new Run("-3: of all other THINGS, with smaller numbers and with greater ones", "born(5, 10)", "born(6, 10)",
                "born(7, 10)", "born(8, 10)").refused("join(1, 2, 20, 5)", -3).refused("join(2, 1, 20, 5)", -3)
                .refused("join(1, 2, 20, 8)", -3).refused("join(2, 1, 20, 8)", -3).refused("join(0, 3, 20, 6)", -3)
                .refused("join(3, 0, 20, 7)", -3).refused("join(3, 2, 20, 5)", -3).due("join(3, 1, 20, 6)", 4);
    }

    private static void theCodeIsBornBehind() {
        new Run("-3: one of its CODE is born behind it", "born(5, 10)", "born(6, 10)", "born(7, 20)", "ends(2, 30)")
                .refused("join(0, 1, 19, 7)", -3).refused("join(0, 1, 11, 7)", -3).due("join(0, 1, 19, 8)", 3);
    }

    private static void bothEndFirst() {
        new Run("the THINGS that are JOINED END first: the first one's CODE", "born(5, 10)", "born(6, 10)")
                .due("join(0, 1, 20, 5)", 2).due("find(5, 19, 0)", 0).due("find(5, 20, 0)", 2)
                .due("find(6, 19, 0)", 1).due("find(6, 20, 0)", -1);
        new Run("the THINGS that are JOINED END first: the second one's CODE", "born(5, 10)", "born(6, 10)")
                .due("join(0, 1, 20, 6)", 2).due("find(6, 19, 0)", 1).due("find(6, 20, 0)", 2)
                .due("find(5, 20, 0)", -1);
    }

    private static void fortyAreThere() {
        new Run("-4: not with 39").tellEach(0, 39, i -> "born(" + i + ", 10)").due("join(0, 1, 20, 50)", 39)
                .due("count(1)", 40).refused("join(2, 3, 20, 51)", -4).refused("join(2, 39, 21, 51)", -4);
        new Run("-4: with 40").tellEach(0, 40, i -> "born(" + i + ", 10)").refused("join(0, 1, 20, 50)", -4)
                .refused("join(38, 39, 20, 39)", -4).due("count(1)", 40).due("thing(0, 0, 2)", 2001)
                .due("thing(1, 0, 2)", 2001);
    }

    private static void theFirstReasonCounts() {
        new Run("-2 ahead of -3 ahead of -4").tellEach(0, 40, i -> "born(" + i + ", 10)")
                .refused("join(0, 0, 20, 5)", -2).refused("join(0, 1, 10, 5)", -2).refused("join(0, 1, 20, 5)", -3)
                .refused("join(0, 1, 20, 50)", -4);
    }

    private static void knownFromToday() {
        new Run("ahead of that the old ones live on", "born(5, 10)", "born(6, 10)", "day(30)", "join(0, 1, 20, 7)",
                "day(40)").due("thing(0, 29, 2)", 2001).due("thing(1, 29, 2)", 2001).due("thing(0, 29, 3)", 0)
                .due("thing(1, 29, 3)", 0).due("thing(0, 29, 4)", -1).due("thing(1, 29, 4)", -1)
                .due("thing(2, 29, 0)", -1).due("find(5, 20, 29)", 0).due("find(6, 20, 29)", 1)
                .due("find(7, 20, 29)", -1).due("thing(0, 30, 2)", 20).due("thing(1, 30, 2)", 20)
                .due("thing(1, 30, 3)", 3).due("thing(1, 30, 4)", 2).due("thing(2, 30, 0)", 7)
                .due("find(5, 20, 30)", -1).due("find(6, 19, 30)", 1).due("find(7, 20, 30)", 2)
                .due("find(7, 19, 30)", -1);
    }
}
