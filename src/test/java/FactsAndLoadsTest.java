/** Promises 8 (fact), 9 (load), 10 (undo) and 13 (hangs). */
public final class FactsAndLoadsTest {
    public static void main(String[] args) {
        facts();
        factsFull();
        hangs();
        loads();
        undo();
        Check.finish();
    }

    private static void facts() {
        ThenTables x = new ThenTables();
        int max = Integer.MAX_VALUE;
        int min = Integer.MIN_VALUE;
        int[][] wrong = {{-1, 0, 1}, {100, 0, 1}, {0, -1, 1}, {0, 2001, 1}, {0, 0, 10001}, {0, 0, -10001},
            {max, 0, 1}, {0, max, 1}, {0, 0, max}, {0, 0, min}};
        String ahead = Check.seen(x);
        for (int[] w : wrong) {
            Check.due("fact(" + java.util.Arrays.toString(w) + ")", x.fact(w[0], w[1], w[2]), -1);
        }
        Check.due("after refused facts", Check.seen(x), ahead);
        Check.due("fact(0, 0, -10000)", x.fact(0, 0, -10000), 0);
        Check.due("fact(99, 2000, 10000)", x.fact(99, 2000, 10000), 1);
        Check.due("fact(99, 2000, 0)", x.fact(99, 2000, 0), 2);
        Check.due("their sum", x.sum(0, 0, 0), 0);
        Check.due("three are there", x.count(2), 3);
    }

    private static void factsFull() {
        ThenTables x = new ThenTables();
        for (int i = 0; i < 100; i++) {
            Check.due("fact " + i, x.fact(3, 3, 1), i);
        }
        x.load();
        x.undo(0);
        for (int i = 100; i < 200; i++) {
            Check.due("fact " + i, x.fact(3, 3, 1), i);
        }
        Check.due("a 201st", x.fact(3, 3, 1), -1);
        Check.due("200 are there", x.count(2), 200);
        Check.due("a hundred count", x.sum(0, 0, 0), 100);
    }

    private static void hangs() {
        ThenTables x = new ThenTables();
        x.day(2);
        x.fact(5, 40, 1);
        Check.due("it waits", x.hangs(0, 2), -1);
        Check.due("ahead of its news", x.hangs(0, 1), -2);
        x.day(4);
        x.born(5, 40);
        Check.due("its thing came", x.hangs(0, 4), 0);
        Check.due("it waited then", x.hangs(0, 3), -1);
        x.day(6);
        x.ends(0, 41);
        Check.due("its last day", x.hangs(0, 6), 0);
        x.fact(5, 41, 1);
        Check.due("on its end", x.hangs(1, 6), -1);
        Check.due("it wasn't known then", x.hangs(1, 5), -2);
        x.day(8);
        x.born(5, 41);
        Check.due("on the next of its code", x.hangs(1, 8), 1);
        Check.due("the first one stays", x.hangs(0, 8), 0);
        Check.due("known on a day to come", x.hangs(1, 2000), 1);
        x.fact(5, 39, 1);
        Check.due("ahead of the birth", x.hangs(2, 8), -1);
        x.day(9);
        x.split(1, 45, 5, 6, 1, 2);
        x.fact(5, 45, 1);
        Check.due("on the part with its code", x.hangs(3, 9), 2);
        x.load();
        x.day(12);
        x.undo(0);
        Check.due("undone", x.hangs(1, 12), -2);
        Check.due("undone, to come", x.hangs(1, 2000), -2);
        Check.due("ahead of the undoing", x.hangs(1, 11), 1);
        Check.due("hangs(4, 9)", x.hangs(4, 9), -2);
        Check.due("hangs(-1, 9)", x.hangs(-1, 9), -2);
        Check.due("hangs(0, -1)", x.hangs(0, -1), -2);
        Check.due("hangs(max, 9)", x.hangs(Integer.MAX_VALUE, 9), -2);
        Check.due("hangs(min, 9)", x.hangs(Integer.MIN_VALUE, 9), -2);
        ThenTables y = new ThenTables();
        y.fact(1, 1, 1);
        Check.due("hangs(0, 2000)", y.hangs(0, 2000), -1);
        Check.due("hangs(0, 2001)", y.hangs(0, 2001), -2);
    }

    private static void loads() {
        ThenTables x = new ThenTables();
        for (int i = 1; i < 40; i++) {
            Check.due("load " + i, x.load(), i);
        }
        Check.due("a 41st", x.load(), -1);
        Check.due("the 40th stays open", x.count(4), 39);
        x.fact(1, 1, 1);
        Check.due("undo of the open one", x.undo(39), -1);
        Check.due("undo of 38", x.undo(38), 0);
        Check.due("no room though one is undone", x.load(), -1);
    }

    private static void undo() {
        ThenTables x = new ThenTables();
        x.born(1, 0);
        x.mark(0, 2, 0, 7);
        x.fact(1, 0, 1000);
        x.load();
        x.mark(0, 2, 0, 8);
        x.fact(1, 0, 100);
        x.fact(1, 0, 10);
        x.born(2, 0);
        x.ends(0, 50);
        String ahead = Check.seen(x);
        Check.due("undo(-1)", x.undo(-1), -1);
        Check.due("undo(1), it is open", x.undo(1), -1);
        Check.due("undo(2)", x.undo(2), -1);
        Check.due("undo(40)", x.undo(40), -1);
        Check.due("undo(max)", x.undo(Integer.MAX_VALUE), -1);
        Check.due("undo(min)", x.undo(Integer.MIN_VALUE), -1);
        Check.due("after refused undos", Check.seen(x), ahead);
        x.load();
        x.day(30);
        Check.due("undo(1)", x.undo(1), 3);
        Check.due("undo(1) again", x.undo(1), -1);
        Check.due("one is undone", x.count(5), 1);
        Check.due("the mark", x.told(0, 2, 0, 30), 7);
        Check.due("the mark ahead", x.told(0, 2, 0, 29), 8);
        Check.due("the sum", x.sum(0, 0, 30), 1000);
        Check.due("the sum ahead", x.sum(0, 0, 29), 1110);
        Check.due("then", x.then(2, 7, 30), 1000);
        Check.due("then ahead", x.then(2, 8, 29), 1110);
        Check.due("births aren't undone", x.find(2, 0, 30), 1);
        Check.due("ends aren't undone", x.thing(0, 30, 2), 50);
        Check.due("undo(0)", x.undo(0), 2);
        Check.due("all is undone", x.sum(0, 0, 30), 0);
        Check.due("two are undone", x.count(5), 2);
    }
}
