/** Promise 1, a new object: "No THINGS; LOAD 0 is open." */
public final class Promise01Test {
    public static void main(String[] args) {
        noThings();
        loadZeroIsOpen();
        todayIsZero();
        nothingIsTold();
        eachObjectIsNew();
        Check.finish();
    }

    private static void noThings() {
        Run run = new Run("No THINGS").due("count(1)", 0);
        for (int what = 0; what < 6; what++) {
            run.due("thing(0, 0, " + what + ")", -1);
        }
        run.refused("ends(0, 1)", false).refused("split(0, 1, 1, 2, 1, 2)", -2).refused("join(0, 1, 1, 2)", -2)
                .refused("mark(0, 0, 0, 0)", false).refused("mark(0, 2, 0, 0)", false)
                .due("told(0, 0, 0, 0)", -1).due("find(0, 0, 0)", -1).due("find(99, 2000, 2000)", -1)
                .due("born(0, 0)", 0).due("count(1)", 1);
    }

    private static void loadZeroIsOpen() {
        new Run("LOAD 0 is open").due("count(4)", 0).due("count(5)", 0).refused("undo(0)", -1).refused("undo(1)", -1)
                .due("load()", 1).due("undo(0)", 0);
        new Run("LOAD 0 is open: what is told first belongs to it", "born(0, 0)", "mark(0, 2, 0, 0)", "fact(0, 0, 1)",
                "load()").due("undo(0)", 2);
    }

    private static void todayIsZero() {
        new Run("TODAY is 0 at first").due("count(0)", 0).refused("day(0)", false).refused("day(-1)", false)
                .due("born(3, 7)", 0).due("thing(0, 0, 0)", 3).due("day(1)", true);
    }

    private static void nothingIsTold() {
        Run run = new Run("an empty store").due("count(2)", 0).due("count(3)", 0).due("hangs(0, 0)", -2)
                .due("hangs(0, 2000)", -2);
        for (int mark = 0; mark < 4; mark++) {
            run.due("then(" + mark + ", 0, 0)", 0).due("then(" + mark + ", 100, 2000)", 0)
                    .due("by(" + mark + ", 0, 0, 0)", 0).due("by(" + mark + ", 100, 2000, 2000)", 0);
        }
        for (int what = 0; what < 4; what++) {
            run.due("sum(" + what + ", 0, 0)", 0).due("compare(0, 0, 2000, 0, " + what + ")", 0)
                    .due("compare(3, 0, 0, 2000, " + what + ")", 0);
        }
        run.due("fact(0, 0, 0)", 0);
    }

    private static void eachObjectIsNew() {
        ThenTables first = new ThenTables();
        first.day(9);
        first.born(1, 2);
        first.mark(0, 1, 0, 5);
        first.fact(1, 2, 3);
        first.load();
        first.undo(0);
        ThenTables second = new ThenTables();
        for (int what = 0; what < 6; what++) {
            Check.due("a second object: count(" + what + ")", second.count(what), 0);
        }
        Check.due("a second object: born(1, 2)", second.born(1, 2), 0);
        Check.due("a second object: told(0, 1, 0, 0)", second.told(0, 1, 0, 0), 100);
        Check.due("the first object still: count(0)", first.count(0), 9);
        Check.due("the first object still: count(5)", first.count(5), 1);
    }
}
