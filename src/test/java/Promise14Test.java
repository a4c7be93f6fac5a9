/** Promise 14, find: "The THING of a CODE that lives on a DAY, as KNOWN on one. NONE: none." */
public final class Promise14Test {
    public static void main(String[] args) {
        itLivesFromBirthToEnd();
        withoutAnEnd();
        codes();
        days();
        knownDays();
        asKnown();
        onADayAheadOfItsNews();
        oneCodeOnOneDay();
        Check.finish();
    }

    private static void itLivesFromBirthToEnd() {
        new Run("lives from its BIRTH up to its END, END not counted", "born(5, 10)", "ends(0, 20)")
                .due("find(5, 9, 0)", -1).due("find(5, 10, 0)", 0).due("find(5, 11, 0)", 0).due("find(5, 19, 0)", 0)
                .due("find(5, 20, 0)", -1).due("find(5, 21, 0)", -1);
        new Run("a life of one DAY", "born(5, 10)", "ends(0, 11)").due("find(5, 9, 0)", -1).due("find(5, 10, 0)", 0)
                .due("find(5, 11, 0)", -1);
        new Run("an END on the last DAY", "born(5, 10)", "ends(0, 2000)").due("find(5, 1999, 0)", 0)
                .due("find(5, 2000, 0)", -1);
    }

    private static void withoutAnEnd() {
        new Run("none: 2,001", "born(5, 0)", "born(6, 2000)").due("find(5, 0, 0)", 0).due("find(5, 1, 0)", 0)
                .due("find(5, 1999, 0)", 0).due("find(5, 2000, 0)", 0).due("find(6, 1999, 0)", -1)
                .due("find(6, 2000, 0)", 1);
    }

    private static void codes() {
        new Run("a CODE 0 to 99", "born(0, 10)", "born(99, 10)").due("find(-1, 10, 0)", -1).due("find(0, 10, 0)", 0)
                .due("find(1, 10, 0)", -1).due("find(98, 10, 0)", -1).due("find(99, 10, 0)", 1)
                .due("find(100, 10, 0)", -1).due("find(min, 10, 0)", -1).due("find(max, 10, 0)", -1);
    }

    private static void days() {
        new Run("DAYS 0 to 2,000", "born(5, 0)").due("find(5, -1, 0)", -1).due("find(5, 0, 0)", 0)
                .due("find(5, 2000, 0)", 0).due("find(5, 2001, 0)", -1).due("find(5, min, 0)", -1)
                .due("find(5, max, 0)", -1);
    }

    private static void knownDays() {
        new Run("as KNOWN on a DAY 0 to 2,000", "born(5, 10)").due("find(5, 10, -1)", -1).due("find(5, 10, 0)", 0)
                .due("find(5, 10, 1)", 0).due("find(5, 10, 1999)", 0).due("find(5, 10, 2000)", 0)
                .due("find(5, 10, 2001)", -1).due("find(5, 10, min)", -1).due("find(5, 10, max)", -1);
    }

    private static void asKnown() {
        new Run("as KNOWN ahead of its birth's news and of its END's", "day(4)", "born(5, 10)", "day(6)", "ends(0, 20)",
                "day(8)", "born(5, 20)", "day(9)").due("find(5, 10, 3)", -1).due("find(5, 10, 4)", 0)
                .due("find(5, 20, 5)", 0).due("find(5, 20, 6)", -1).due("find(5, 19, 6)", 0)
                .due("find(5, 20, 7)", -1).due("find(5, 20, 8)", 1).due("find(5, 19, 8)", 0)
                .due("find(5, 20, 2000)", 1);
    }

    private static void onADayAheadOfItsNews() {
        new Run("on a DAY ahead of the DAY of its news", "day(30)", "born(5, 10)", "day(40)", "ends(0, 20)")
                .due("find(5, 9, 30)", -1).due("find(5, 10, 30)", 0).due("find(5, 25, 30)", 0)
                .due("find(5, 10, 29)", -1).due("find(5, 25, 39)", 0).due("find(5, 25, 40)", -1)
                .due("find(5, 19, 40)", 0).due("find(5, 35, 29)", -1);
    }

    private static void oneCodeOnOneDay() {
        Run run = new Run("Two with one CODE never live on one DAY", "born(5, 10)", "ends(0, 20)", "born(5, 20)",
                "split(1, 30, 5, 6, 1, 2)", "join(2, 3, 40, 5)");
        int[][] dues = {{9, -1}, {10, 0}, {19, 0}, {20, 1}, {29, 1}, {30, 2}, {39, 2}, {40, 4}, {2000, 4}};
        for (int[] due : dues) {
            run.due("find(5, " + due[0] + ", 0)", due[1]);
        }
        run.due("find(6, 29, 0)", -1).due("find(6, 30, 0)", 3).due("find(6, 39, 0)", 3).due("find(6, 40, 0)", -1);
    }
}
