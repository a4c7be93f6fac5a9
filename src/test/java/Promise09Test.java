/** Promise 9, load: "The next LOAD is opened: its number. NONE: there are 40." */
public final class Promise09Test {
    public static void main(String[] args) {
        itsNumber();
        whatIsToldBelongsToIt();
        thereAreForty();
        undoneOnesCount();
        Check.finish();
    }

    private static void itsNumber() {
        new Run("The next LOAD is opened: its number").due("count(4)", 0).due("load()", 1).due("count(4)", 1)
                .due("load()", 2).due("count(4)", 2).due("count(5)", 0).due("count(0)", 0);
    }

    private static void whatIsToldBelongsToIt() {
        new Run("what is told belongs to the LOAD that is open", "born(5, 10)", "fact(5, 10, 1)", "load()",
                "fact(5, 10, 2)", "mark(0, 2, 10, 5)", "load()", "fact(5, 10, 4)").due("undo(1)", 2)
                .due("sum(0, 10, 0)", 5).due("told(0, 2, 10, 0)", 100).due("undo(0)", 1).due("sum(0, 10, 0)", 4)
                .refused("undo(2)", -1).due("sum(0, 10, 0)", 4);
    }

    private static void thereAreForty() {
        new Run("NONE: there are 40").tellEach(1, 38, i -> "load()").due("load()", 38).due("count(4)", 38)
                .due("load()", 39).due("count(4)", 39).refused("load()", -1).refused("load()", -1)
                .due("count(4)", 39).due("fact(5, 10, 1)", 0).refused("undo(39)", -1).due("undo(38)", 0)
                .due("sum(0, 0, 0)", 1);
    }

    private static void undoneOnesCount() {
        new Run("NONE: there are 40, also if some are undone").tellEach(1, 40, i -> "load()")
                .tellEach(0, 39, i -> "undo(" + i + ")").due("count(5)", 39).refused("load()", -1)
                .due("count(4)", 39);
    }
}
