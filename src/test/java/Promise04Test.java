/**
 * Promise 4, ends: "A THING ENDS on a DAY: true. False, doing nothing: none such, it has an END, the DAY isn't behind
 * its BIRTH."
 */
public final class Promise04Test {
    public static void main(String[] args) {
        itEnds();
        noneSuch();
        itHasAnEnd();
        theDayIsNotBehindItsBirth();
        theLastDay();
        knownFromToday();
        Check.finish();
    }

    private static void itEnds() {
        new Run("A THING ENDS on a DAY", "born(5, 10)", "born(6, 10)").due("ends(0, 20)", true)
                .due("thing(0, 0, 2)", 20).due("thing(0, 0, 3)", 1).due("thing(0, 0, 4)", -1)
                .due("find(5, 19, 0)", 0).due("find(5, 20, 0)", -1).due("thing(1, 0, 2)", 2001)
                .due("thing(1, 0, 3)", 0).due("count(1)", 2);
    }

    private static void noneSuch() {
        new Run("none such, of no THINGS").refused("ends(0, 20)", false).refused("ends(-1, 20)", false);
        new Run("none such", "born(5, 10)", "born(6, 10)").refused("ends(-1, 20)", false)
                .refused("ends(2, 20)", false).refused("ends(3, 20)", false).refused("ends(39, 20)", false)
                .refused("ends(40, 20)", false).refused("ends(min, 20)", false).refused("ends(max, 20)", false)
                .due("ends(1, 20)", true).due("ends(0, 20)", true);
        new Run("none such, of 40 THINGS").tellEach(0, 40, i -> "born(" + i + ", 10)").refused("ends(40, 20)", false)
                .refused("ends(-1, 20)", false).due("ends(39, 20)", true);
    }

    private static void itHasAnEnd() {
        new Run("it has an END", "born(5, 10)", "ends(0, 20)").refused("ends(0, 19)", false)
                .refused("ends(0, 20)", false).refused("ends(0, 21)", false).refused("ends(0, 11)", false)
                .due("thing(0, 0, 2)", 20);
        new Run("it has an END, on the last DAY", "born(5, 10)", "ends(0, 2000)").refused("ends(0, 2000)", false)
                .refused("ends(0, 1999)", false).due("thing(0, 0, 2)", 2000);
        new Run("it has an END, since it was SPLIT", "born(5, 10)", "split(0, 20, 6, 7, 1, 2)")
                .refused("ends(0, 20)", false).refused("ends(0, 30)", false).due("thing(0, 0, 3)", 2)
                .due("ends(1, 21)", true).due("ends(2, 21)", true);
        new Run("it has an END, since it was JOINED", "born(5, 10)", "born(6, 10)", "join(0, 1, 20, 7)")
                .refused("ends(0, 30)", false).refused("ends(1, 30)", false).due("thing(1, 0, 3)", 3)
                .due("ends(2, 21)", true);
        new Run("it has an END that was told on an earlier DAY", "born(5, 10)", "ends(0, 20)", "day(30)")
                .refused("ends(0, 25)", false).refused("ends(0, 15)", false);
    }

    private static void theDayIsNotBehindItsBirth() {
        new Run("the DAY isn't behind its BIRTH", "born(5, 10)").refused("ends(0, 9)", false)
                .refused("ends(0, 10)", false).refused("ends(0, 0)", false).refused("ends(0, -1)", false)
                .refused("ends(0, min)", false).due("ends(0, 11)", true).due("thing(0, 0, 2)", 11);
        new Run("the DAY isn't behind its BIRTH on 0", "born(5, 0)").refused("ends(0, -1)", false)
                .refused("ends(0, 0)", false).due("ends(0, 1)", true);
        new Run("the DAY isn't behind the BIRTH of a part", "born(5, 10)", "split(0, 20, 6, 7, 1, 2)")
                .refused("ends(1, 20)", false).refused("ends(2, 20)", false).refused("ends(2, 11)", false)
                .due("ends(1, 21)", true).due("ends(2, 21)", true);
    }

    private static void theLastDay() {
        new Run("DAYS up to 2,000", "born(5, 1999)", "born(6, 2000)", "born(7, 10)", "born(8, 10)")
                .refused("ends(0, 1999)", false).refused("ends(0, 2001)", false).refused("ends(1, 2000)", false)
                .refused("ends(1, 2001)", false).refused("ends(2, 2001)", false).refused("ends(2, 2002)", false)
                .refused("ends(2, max)", false).due("ends(0, 2000)", true).due("ends(2, 2000)", true)
                .due("ends(3, 1999)", true).due("thing(2, 0, 2)", 2000).due("thing(1, 0, 2)", 2001);
    }

    private static void knownFromToday() {
        new Run("KNOWN from TODAY on", "born(5, 10)", "day(30)", "ends(0, 20)", "day(40)").due("thing(0, 29, 2)", 2001)
                .due("thing(0, 29, 3)", 0).due("thing(0, 30, 2)", 20).due("thing(0, 30, 3)", 1)
                .due("thing(0, 31, 2)", 20).due("find(5, 20, 29)", 0).due("find(5, 20, 30)", -1)
                .due("find(5, 19, 30)", 0);
    }
}
