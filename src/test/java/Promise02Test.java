/** Promise 2, day: "TODAY becomes a later day: true; false, doing nothing: it isn't, or above 2,000." */
public final class Promise02Test {
    public static void main(String[] args) {
        aLaterDay();
        itIsNotLater();
        aboveTheLastDay();
        whatIsToldIsKnownFromToday();
        Check.finish();
    }

    private static void aLaterDay() {
        new Run("TODAY becomes a later day").due("day(1)", true).due("count(0)", 1).due("day(2)", true)
                .due("count(0)", 2).due("day(10)", true).due("count(0)", 10).due("day(1999)", true)
                .due("count(0)", 1999).due("day(2000)", true).due("count(0)", 2000);
        new Run("TODAY becomes a later day, from the first to the last").due("day(2000)", true)
                .due("count(0)", 2000);
    }

    private static void itIsNotLater() {
        new Run("false, doing nothing: it isn't, on 0").refused("day(0)", false).refused("day(-1)", false)
                .refused("day(min)", false).due("count(0)", 0);
        new Run("false, doing nothing: it isn't, on 1", "day(1)").refused("day(1)", false).refused("day(0)", false)
                .due("count(0)", 1).due("day(2)", true);
        new Run("false, doing nothing: it isn't, on 10", "born(1, 10)", "fact(1, 10, 5)", "day(10)", "mark(0, 1, 0, 5)")
                .refused("day(10)", false).refused("day(9)", false).refused("day(0)", false).refused("day(-1)", false)
                .refused("day(-10)", false).due("count(0)", 10).due("day(11)", true);
        new Run("false, doing nothing: it isn't, on 2000", "day(2000)").refused("day(2000)", false)
                .refused("day(1999)", false).due("count(0)", 2000);
    }

    private static void aboveTheLastDay() {
        String[] ahead = {"day(1)", "day(1999)", "day(2000)"};
        for (String day : ahead) {
            new Run("false, doing nothing: above 2,000, behind " + day, "born(1, 10)", day)
                    .refused("day(2001)", false).refused("day(2002)", false).refused("day(max)", false);
        }
        new Run("false, doing nothing: above 2,000").refused("day(2001)", false).due("count(0)", 0)
                .due("day(2000)", true);
    }

    private static void whatIsToldIsKnownFromToday() {
        new Run("all that is told is KNOWN from TODAY on, on the last DAY", "day(2000)", "born(1, 10)",
                "mark(0, 2, 10, 5)", "fact(1, 10, 7)").due("thing(0, 1999, 0)", -1).due("thing(0, 2000, 0)", 1)
                .due("told(0, 2, 10, 1999)", -1).due("told(0, 2, 10, 2000)", 5).due("hangs(0, 1999)", -2)
                .due("hangs(0, 2000)", 0).due("sum(0, 10, 1999)", 0).due("sum(0, 10, 2000)", 7);
        new Run("all that is told is KNOWN from TODAY on, on the DAY behind a step", "day(4)", "day(5)", "born(1, 10)")
                .due("thing(0, 4, 0)", -1).due("thing(0, 5, 0)", 1).due("thing(0, 6, 0)", 1);
        new Run("a refused day() doesn't make TODAY", "day(5)").refused("day(2001)", false).due("born(1, 10)", 0)
                .due("thing(0, 5, 0)", 1).due("thing(0, 4, 0)", -1);
    }
}
