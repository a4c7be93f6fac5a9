/**
 * Promise 10, undo: "A LOAD (not the one that is open) is UNDONE: how many tellings and FACTS. NONE, doing nothing:
 * none such, it is."
 */
public final class Promise10Test {
    public static void main(String[] args) {
        howMany();
        theOpenOne();
        noneSuch();
        itIsUndoneAlready();
        asIfNoneHadBeenTold();
        askedAheadStays();
        toldAndUndoneOnOneDay();
        livesStay();
        onTheLastDay();
        fortyLoads();
        Check.finish();
    }

    private static void howMany() {
        new Run("how many tellings and FACTS", "load()").due("undo(0)", 0);
        new Run("how many: a telling", "born(5, 10)", "mark(0, 2, 10, 5)", "load()").due("undo(0)", 1);
        new Run("how many: a FACT", "fact(5, 10, 1)", "load()").due("undo(0)", 1);
        new Run("how many: no births, ENDS and refused calls", "born(5, 10)", "born(6, 10)", "born(7, 10)",
                "born(8, 10)", "ends(0, 20)", "split(1, 20, 9, 10, 1, 2)", "join(2, 3, 20, 11)", "mark(0, 0, 0, 5)",
                "mark(1, 3, 0, 5)", "fact(5, 10, 1)", "fact(99, 10, 0)").refused("mark(0, 0, 0, 5)", false)
                .refused("fact(100, 0, 0)", -1).tell("load()", "fact(5, 10, 1)").due("undo(0)", 4);
        new Run("how many: all FACTS").tellEach(0, 200, i -> "fact(5, 10, 1)").tell("load()").due("undo(0)", 200);
        new Run("how many: all tellings", "born(5, 10)").tellEach(0, 300, i -> "mark(0, 1, 10, 1)").tell("load()")
                .due("undo(0)", 300);
    }

    private static void theOpenOne() {
        new Run("not the one that is open", "fact(5, 10, 1)").refused("undo(0)", -1).due("load()", 1)
                .refused("undo(1)", -1).due("sum(0, 0, 0)", 1).due("load()", 2).refused("undo(2)", -1)
                .due("undo(1)", 0).due("undo(0)", 1);
    }

    private static void noneSuch() {
        new Run("none such", "born(5, 10)", "mark(0, 2, 10, 5)", "load()", "fact(5, 10, 1)", "load()")
                .refused("undo(-1)", -1).refused("undo(2)", -1).refused("undo(3)", -1).refused("undo(39)", -1)
                .refused("undo(40)", -1).refused("undo(min)", -1).refused("undo(max)", -1).due("count(5)", 0)
                .due("undo(1)", 1).due("undo(0)", 1).due("count(5)", 2);
    }

    private static void itIsUndoneAlready() {
        new Run("it is UNDONE", "born(5, 10)", "mark(0, 2, 10, 5)", "load()", "day(3)").due("undo(0)", 1)
                .refused("undo(0)", -1).due("count(5)", 1).tell("day(5)").refused("undo(0)", -1).due("count(5)", 1)
                .due("told(0, 2, 10, 2)", 5).due("told(0, 2, 10, 3)", 100).due("told(0, 2, 10, 4)", 100);
        new Run("it is UNDONE, of nothing", "load()").due("undo(0)", 0).refused("undo(0)", -1).due("count(5)", 1);
    }

    private static void asIfNoneHadBeenTold() {
        new Run("it's as if none of it had been told", "born(5, 10)", "mark(0, 1, 10, 1)", "mark(0, 2, 10, 1)",
                "fact(5, 10, 1)", "load()", "mark(0, 0, 10, 2)", "mark(0, 1, 10, 2)", "mark(0, 2, 10, 2)",
                "mark(0, 3, 10, 2)", "fact(5, 10, 2)", "fact(6, 10, 4)", "load()", "mark(0, 3, 20, 3)")
                .due("undo(1)", 6).due("told(0, 0, 20, 0)", 100).due("told(0, 1, 20, 0)", 1).due("told(0, 2, 20, 0)", 1)
                .due("told(0, 3, 19, 0)", 100).due("told(0, 3, 20, 0)", 3).due("hangs(0, 0)", 0)
                .due("hangs(1, 0)", -2).due("hangs(2, 0)", -2).due("sum(0, 10, 0)", 1).due("sum(1, 10, 0)", 0)
                .due("sum(2, 9, 0)", 1).due("then(2, 1, 0)", 1).due("by(2, 1, 10, 0)", 1)
                .due("thing(0, 0, 5)", 0);
    }

    private static void askedAheadStays() {
        new Run("what is asked as KNOWN ahead of that stays", "born(5, 10)", "day(3)", "mark(0, 1, 10, 7)",
                "mark(0, 1, 10, 8)", "fact(5, 10, 9)", "load()", "day(6)").due("undo(0)", 3).tell("day(9)")
                .due("told(0, 1, 10, 2)", 100).due("told(0, 1, 10, 3)", 8).due("told(0, 1, 10, 5)", 8)
                .due("told(0, 1, 10, 6)", 100).due("told(0, 1, 10, 7)", 100).due("told(0, 1, 10, 2000)", 100)
                .due("thing(0, 5, 5)", 1).due("thing(0, 6, 5)", 0).due("hangs(0, 2)", -2).due("hangs(0, 3)", 0)
                .due("hangs(0, 5)", 0).due("hangs(0, 6)", -2).due("hangs(0, 2000)", -2).due("sum(0, 10, 2)", 0)
                .due("sum(0, 10, 3)", 9).due("sum(0, 10, 5)", 9).due("sum(0, 10, 6)", 0).due("then(1, 8, 5)", 9)
                .due("then(1, 8, 6)", 0).due("by(1, 8, 10, 5)", 9).due("by(1, 8, 10, 6)", 0)
                .due("sum(2, 9, 5)", 9).due("sum(2, 9, 6)", 0);
    }

    private static void toldAndUndoneOnOneDay() {
        new Run("told and UNDONE on one DAY", "born(5, 10)", "day(3)", "mark(0, 2, 10, 7)", "fact(5, 10, 9)", "load()")
                .due("told(0, 2, 10, 3)", 7).due("hangs(0, 3)", 0).due("undo(0)", 2).due("told(0, 2, 10, 2)", 100)
                .due("told(0, 2, 10, 3)", 100).due("told(0, 2, 10, 4)", 100).due("hangs(0, 2)", -2)
                .due("hangs(0, 3)", -2).due("hangs(0, 4)", -2).due("sum(0, 10, 3)", 0);
    }

    private static void livesStay() {
        new Run("what is told (MARKS, FACTS): no lives", "born(5, 10)", "born(6, 10)", "born(7, 10)", "born(8, 10)",
                "ends(0, 20)", "split(1, 20, 9, 10, 1, 2)", "join(2, 3, 20, 11)", "load()").due("undo(0)", 0)
                .due("count(1)", 7).due("thing(0, 0, 3)", 1).due("thing(1, 0, 3)", 2).due("thing(2, 0, 3)", 3)
                .due("thing(0, 0, 2)", 20).due("find(9, 20, 0)", 4).due("find(11, 20, 0)", 6);
    }

    private static void onTheLastDay() {
        new Run("UNDONE on the last DAY", "born(5, 10)", "mark(0, 2, 10, 7)", "fact(5, 10, 9)", "load()", "day(2000)")
                .due("undo(0)", 2).due("told(0, 2, 10, 1999)", 7).due("told(0, 2, 10, 2000)", 100)
                .due("hangs(0, 1999)", 0).due("hangs(0, 2000)", -2).due("sum(0, 10, 1999)", 9)
                .due("sum(0, 10, 2000)", 0).refused("undo(0)", -1);
        new Run("UNDONE on DAY 0", "fact(5, 10, 9)", "load()").due("sum(0, 10, 0)", 9).due("undo(0)", 1)
                .due("sum(0, 10, 0)", 0).due("sum(0, 10, 1)", 0).refused("undo(0)", -1);
    }

    private static void fortyLoads() {
        new Run("the LOADS of 40").tellEach(1, 40, i -> "load()").refused("undo(39)", -1).refused("undo(40)", -1)
                .due("undo(38)", 0).due("undo(0)", 0).due("count(5)", 2).refused("undo(39)", -1);
    }
}
