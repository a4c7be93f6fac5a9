/** Promise 8, fact: "A FACT: its number. NONE, doing nothing: not as told, 200 are there." */
public final class Promise08Test {
    public static void main(String[] args) {
        itsNumber();
        codes();
        days();
        amounts();
        twoHundredAreThere();
        undoneOnesCount();
        Check.finish();
    }

    private static void itsNumber() {
        new Run("its number").due("fact(5, 10, 1)", 0).due("fact(5, 10, 1)", 1).due("fact(6, 11, -2)", 2)
                .due("count(2)", 3).due("sum(0, 0, 0)", 0);
        new Run("its number, in another LOAD", "fact(5, 10, 1)", "load()", "undo(0)").due("fact(5, 10, 2)", 1)
                .due("hangs(1, 0)", -1).due("hangs(0, 0)", -2);
    }

    private static void codes() {
        new Run("a CODE 0 to 99", "born(0, 0)", "born(99, 0)").refused("fact(-1, 10, 1)", -1)
                .due("fact(0, 10, 1)", 0).due("fact(1, 10, 1)", 1).due("fact(98, 10, 1)", 2)
                .due("fact(99, 10, 1)", 3).refused("fact(100, 10, 1)", -1).refused("fact(101, 10, 1)", -1)
                .refused("fact(min, 10, 1)", -1).refused("fact(max, 10, 1)", -1).due("hangs(0, 0)", 0)
                .due("hangs(3, 0)", 1).due("hangs(1, 0)", -1);
    }

    private static void days() {
        new Run("DAYS 0 to 2,000", "born(5, 0)").refused("fact(5, -1, 1)", -1).due("fact(5, 0, 1)", 0)
                .due("fact(5, 1, 1)", 1).due("fact(5, 1999, 1)", 2).due("fact(5, 2000, 1)", 3)
                .refused("fact(5, 2001, 1)", -1).refused("fact(5, 2002, 1)", -1).refused("fact(5, min, 1)", -1)
                .refused("fact(5, max, 1)", -1).due("hangs(0, 0)", 0).due("hangs(3, 0)", 0);
    }

    private static void amounts() {
        new Run("amounts -10,000 to 10,000").refused("fact(5, 10, -10001)", -1).refused("fact(5, 10, 10001)", -1)
                .refused("fact(5, 10, min)", -1).refused("fact(5, 10, max)", -1).due("fact(5, 10, -10000)", 0)
                .due("sum(0, 0, 0)", -10000).due("fact(5, 10, 10000)", 1).due("sum(0, 0, 0)", 0)
                .due("fact(5, 10, 9999)", 2).due("sum(0, 0, 0)", 9999).due("fact(5, 10, -9999)", 3)
                .due("sum(0, 0, 0)", 0).due("fact(5, 10, 0)", 4).due("count(2)", 5).due("hangs(4, 0)", -1);
    }

    private static void twoHundredAreThere() {
        new Run("200 are there", "born(5, 10)").tellEach(0, 198, i -> "fact(5, 10, 1)").due("fact(5, 10, 2)", 198)
                .due("count(2)", 199).due("fact(5, 10, 3)", 199).due("count(2)", 200).due("sum(0, 10, 0)", 203)
                .refused("fact(5, 10, 4)", -1).refused("fact(5, 10, 0)", -1).due("count(2)", 200)
                .due("sum(0, 10, 0)", 203).due("hangs(199, 0)", 0).due("hangs(200, 0)", -2);
    }

    private static void undoneOnesCount() {
        new Run("200 are there, also if they are undone").tellEach(0, 199, i -> "fact(5, 10, 1)")
                .tell("load()", "undo(0)").due("count(2)", 199).due("fact(5, 10, 7)", 199)
                .refused("fact(5, 10, 7)", -1).due("count(2)", 200).due("sum(0, 0, 0)", 7);
    }
}
