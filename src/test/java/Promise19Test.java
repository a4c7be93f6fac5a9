/**
 * Promise 19, count: "0 TODAY, 1 THINGS, 2 FACTS, 3 tellings, 4 the LOAD that is open, 5 LOADS UNDONE. NONE for
 * others."
 */
public final class Promise19Test {
    public static void main(String[] args) {
        eachOfSix();
        noneForOthers();
        empty();
        full();
        refusedCallsCountNothing();
        Check.finish();
    }

    private static void eachOfSix() {
        new Run("0 TODAY, 1 THINGS, 2 FACTS, 3 tellings, 4 the LOAD that is open, 5 LOADS UNDONE", "day(70)",
                "born(1, 10)").tellEach(0, 2, i -> "fact(1, 10, 5)").tellEach(0, 3, i -> "mark(0, 1, 0, 5)")
                .tellEach(0, 5, i -> "load()").tellEach(0, 4, i -> "undo(" + i + ")").due("count(0)", 70)
                .due("count(1)", 1).due("count(2)", 2).due("count(3)", 3).due("count(4)", 5).due("count(5)", 4);
        new Run("THINGS, with those that ENDED", "born(1, 10)", "born(2, 10)", "ends(0, 20)").due("count(1)", 2)
                .tell("split(1, 20, 3, 4, 1, 2)").due("count(1)", 4).tell("join(2, 3, 30, 5)").due("count(1)", 5);
    }

    private static void noneForOthers() {
        new Run("NONE for others", "day(7)", "born(1, 10)").due("count(-1)", -1).due("count(0)", 7)
                .due("count(5)", 0).due("count(6)", -1).due("count(7)", -1).due("count(min)", -1)
                .due("count(max)", -1);
    }

    private static void empty() {
        Run run = new Run("of an empty store").due("count(-1)", -1).due("count(6)", -1);
        for (int what = 0; what < 6; what++) {
            run.due("count(" + what + ")", 0);
        }
    }

    private static void full() {
        new Run("TODAY is the last DAY, 40 THINGS, 40 LOADS", "day(2000)").tellEach(0, 40, i -> "born(" + i + ", 10)")
                .tellEach(1, 40, i -> "load()").tellEach(0, 39, i -> "undo(" + i + ")").due("count(0)", 2000)
                .due("count(1)", 40).due("count(4)", 39).due("count(5)", 39);
        new Run("200 FACTS, 300 tellings", "born(1, 10)").tellEach(0, 200, i -> "fact(1, 10, 5)")
                .tellEach(0, 300, i -> "mark(0, 1, 0, 5)").due("count(2)", 200).due("count(3)", 300);
        new Run("FACTS and tellings, with those that are UNDONE", "born(1, 10)", "fact(1, 10, 5)", "fact(1, 10, 5)",
                "mark(0, 1, 0, 5)", "load()", "undo(0)").due("count(2)", 2).due("count(3)", 1).due("count(5)", 1);
    }

    private static void refusedCallsCountNothing() {
        new Run("a refused call does nothing", "day(7)", "born(1, 10)", "mark(0, 0, 0, 5)").refused("day(7)", false)
                .refused("born(1, 10)", -3).refused("mark(0, 0, 0, 5)", false).refused("fact(1, 10, 10001)", -1)
                .refused("undo(0)", -1).due("count(0)", 7).due("count(1)", 1).due("count(2)", 0)
                .due("count(3)", 1).due("count(4)", 0).due("count(5)", 0);
    }
}
