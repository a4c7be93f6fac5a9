/**
 * Promise 3, born: "A THING is born on a DAY: its number. -2, doing nothing: not as told; -3: one of its CODE lives on
 * that DAY or is born behind it (as KNOWN TODAY); -4: 40 are there."
 */
public final class Promise03Test {
    public static void main(String[] args) {
        itsNumber();
        codes();
        days();
        oneLivesOnThatDay();
        oneHasAnEnd();
        oneIsBornBehindIt();
        amongTwoLives();
        asKnownToday();
        fortyAreThere();
        theFirstReasonCounts();
        Check.finish();
    }

    private static void itsNumber() {
        new Run("its number").due("born(5, 10)", 0).due("born(7, 3)", 1).due("ends(0, 11)", true)
                .due("born(5, 11)", 2).due("thing(0, 0, 0)", 5).due("thing(0, 0, 1)", 10).due("thing(1, 0, 0)", 7)
                .due("thing(1, 0, 1)", 3).due("thing(2, 0, 1)", 11);
    }

    private static void codes() {
        new Run("a CODE 0 to 99").refused("born(-1, 10)", -2).due("born(0, 10)", 0).due("born(1, 10)", 1)
                .due("born(98, 10)", 2).due("born(99, 10)", 3).refused("born(100, 10)", -2)
                .refused("born(101, 10)", -2).refused("born(min, 10)", -2).refused("born(max, 10)", -2)
                .due("thing(0, 0, 0)", 0).due("thing(3, 0, 0)", 99);
    }

    private static void days() {
        new Run("DAYS 0 to 2,000").refused("born(1, -1)", -2).due("born(1, 0)", 0).due("born(2, 1)", 1)
                .due("born(3, 1999)", 2).due("born(4, 2000)", 3).refused("born(5, 2001)", -2)
                .refused("born(5, 2002)", -2).refused("born(5, min)", -2).refused("born(5, max)", -2)
                .due("thing(0, 0, 1)", 0).due("thing(3, 0, 1)", 2000);
    }

    private static void oneLivesOnThatDay() {
        new Run("-3: one of its CODE lives on that DAY", "born(5, 10)").refused("born(5, 10)", -3)
                .refused("born(5, 11)", -3).refused("born(5, 1999)", -3).refused("born(5, 2000)", -3)
                .due("born(4, 10)", 1).due("born(6, 10)", 2);
        new Run("-3: one of its CODE lives on the first DAY", "born(5, 0)").refused("born(5, 0)", -3)
                .refused("born(5, 1)", -3);
        new Run("-3: one of its CODE lives on the last DAY", "born(5, 2000)").refused("born(5, 2000)", -3);
    }

    private static void oneHasAnEnd() {
        new Run("END not counted", "born(5, 10)", "ends(0, 20)").refused("born(5, 19)", -3).due("born(5, 20)", 1)
                .refused("born(5, 21)", -3);
        new Run("a DAY behind the END", "born(5, 10)", "ends(0, 20)").due("born(5, 21)", 1)
                .refused("born(5, 20)", -3);
        new Run("a life of one DAY", "born(5, 10)", "ends(0, 11)").refused("born(5, 10)", -3)
                .refused("born(5, 9)", -3).due("born(5, 11)", 1);
        new Run("an END on the last DAY", "born(5, 10)", "ends(0, 2000)").refused("born(5, 1999)", -3)
                .due("born(5, 2000)", 1);
        new Run("the END of one that was SPLIT", "born(5, 10)", "split(0, 20, 6, 7, 1, 2)")
                .refused("born(5, 19)", -3).refused("born(6, 20)", -3).refused("born(7, 20)", -3)
                .refused("born(6, 19)", -3).due("born(5, 20)", 3);
        new Run("the END of one that was JOINED", "born(5, 10)", "born(6, 10)", "join(0, 1, 20, 7)")
                .refused("born(6, 19)", -3).refused("born(7, 20)", -3).refused("born(7, 19)", -3)
                .due("born(6, 20)", 3).due("born(5, 20)", 4);
    }

    private static void oneIsBornBehindIt() {
        new Run("-3: one of its CODE is born behind it", "born(5, 10)").refused("born(5, 9)", -3)
                .refused("born(5, 0)", -3).due("born(4, 9)", 1);
        new Run("-3: one of its CODE is born behind it, and has an END", "born(5, 10)", "ends(0, 20)")
                .refused("born(5, 9)", -3).refused("born(5, 0)", -3).due("born(5, 20)", 1);
        new Run("-3: one of its CODE is born behind it, on the last DAY", "born(5, 2000)")
                .refused("born(5, 1999)", -3).refused("born(5, 0)", -3);
    }

    private static void amongTwoLives() {
        new Run("-3: among two lives", "born(5, 10)", "ends(0, 20)", "born(5, 30)", "ends(1, 40)")
                .refused("born(5, 19)", -3).refused("born(5, 20)", -3).refused("born(5, 29)", -3)
                .refused("born(5, 30)", -3).refused("born(5, 39)", -3).due("born(5, 40)", 2);
    }

    private static void asKnownToday() {
        new Run("as KNOWN TODAY: an END counts on the DAY on which it's told", "born(5, 10)", "day(50)")
                .refused("born(5, 20)", -3).due("ends(0, 20)", true).due("born(5, 20)", 1);
        new Run("as KNOWN TODAY: what was told on an earlier DAY", "born(5, 10)", "ends(0, 20)", "day(50)")
                .refused("born(5, 19)", -3).due("born(5, 20)", 1);
        new Run("as KNOWN TODAY: undoing its LOAD leaves a THING", "born(5, 10)", "load()", "undo(0)")
                .refused("born(5, 10)", -3).due("find(5, 10, 0)", 0);
    }

    private static void fortyAreThere() {
        Run run = new Run("-4: 40 are there").tellEach(0, 38, i -> "born(" + i + ", 10)").due("born(38, 10)", 38)
                .due("count(1)", 39).due("born(39, 10)", 39).due("count(1)", 40).refused("born(40, 10)", -4)
                .refused("born(99, 2000)", -4).due("count(1)", 40);
        run.tell("ends(0, 11)").refused("born(0, 11)", -4).due("thing(39, 0, 0)", 39).due("thing(40, 0, 0)", -1);
        new Run("-4: 40 are there, parts too", "born(60, 0)").tellEach(1, 20, i -> "split(" + 2 * (i - 1) + ", " + i
                + ", " + i + ", 60, 1, 2)").due("count(1)", 39).due("born(70, 0)", 39).refused("born(71, 0)", -4);
    }

    private static void theFirstReasonCounts() {
        new Run("-2 ahead of -3 ahead of -4").tellEach(0, 40, i -> "born(" + i + ", 10)").refused("born(100, 10)", -2)
                .refused("born(0, 2001)", -2).refused("born(0, 10)", -3).refused("born(39, 9)", -3)
                .refused("born(40, 9)", -4);
    }
}
