/** Promises 7 (mark), 11 (told) and 12 (thing, what 5). */
public final class MarksTest {
    public static void main(String[] args) {
        fixed();
        over();
        kept(2);
        kept(3);
        undone();
        refused();
        full();
        toldRefused();
        Check.finish();
    }

    private static ThenTables two() {
        ThenTables x = new ThenTables();
        x.born(1, 100);
        x.born(2, 0);
        return x;
    }

    private static void fixed() {
        ThenTables x = two();
        x.day(4);
        Check.due("fixed: nothing", x.told(0, 0, 0, 4), 100);
        Check.due("fixed: first", x.mark(0, 0, 2000, 99), true);
        Check.due("fixed: again", x.mark(0, 0, 2000, 99), false);
        Check.due("fixed: another value", x.mark(0, 0, 0, 5), false);
        Check.due("fixed: of the other thing", x.mark(1, 0, 0, 5), true);
        Check.due("fixed: on day 0", x.told(0, 0, 0, 4), 99);
        Check.due("fixed: on day 2000", x.told(0, 0, 2000, 4), 99);
        Check.due("fixed: ahead of the news", x.told(0, 0, 2000, 3), 100);
        Check.due("fixed: the other", x.told(1, 0, 1000, 4), 5);
        Check.due("fixed: other marks stay", x.told(0, 1, 2000, 4), 100);
        Check.due("fixed: two tellings", x.count(3), 2);
    }

    private static void over() {
        ThenTables x = two();
        x.mark(0, 1, 500, 7);
        Check.due("over: ahead of its day", x.told(0, 1, 0, 0), 7);
        Check.due("over: once told", x.thing(0, 0, 5), 0);
        x.day(3);
        x.mark(0, 1, 20, 7);
        Check.due("over: the same", x.thing(0, 3, 5), 0);
        x.mark(0, 1, 10, 0);
        x.mark(1, 1, 10, 44);
        x.mark(0, 2, 10, 45);
        Check.due("over: the latest told", x.told(0, 1, 600, 3), 0);
        Check.due("over: ahead of that", x.told(0, 1, 600, 2), 7);
        Check.due("over: once told over", x.thing(0, 3, 5), 1);
        x.mark(0, 1, 10, 7);
        Check.due("over: back again", x.thing(0, 3, 5), 2);
        Check.due("over: ahead of the news", x.thing(0, 2, 5), 0);
        Check.due("over: the other's", x.thing(1, 3, 5), 0);
        ThenTables y = two();
        y.mark(0, 1, 9, 0);
        y.mark(0, 1, 0, 1);
        Check.due("over: the first two", y.thing(0, 0, 5), 1);
    }

    private static void kept(int mark) {
        ThenTables x = two();
        String name = "kept " + mark + ": ";
        x.mark(0, mark, 50, 5);
        x.mark(0, mark, 20, 2);
        Check.due(name + "nothing yet", x.told(0, mark, 19, 0), 100);
        Check.due(name + "from its day", x.told(0, mark, 20, 0), 2);
        Check.due(name + "up to the next", x.told(0, mark, 49, 0), 2);
        Check.due(name + "the next", x.told(0, mark, 50, 0), 5);
        Check.due(name + "to the last day", x.told(0, mark, 2000, 0), 5);
        x.day(9);
        x.mark(0, mark, 20, 3);
        x.mark(0, mark, 2000, 99);
        x.mark(0, mark, 0, 0);
        Check.due(name + "on day 0", x.told(0, mark, 0, 9), 0);
        Check.due(name + "up to the second", x.told(0, mark, 19, 9), 0);
        Check.due(name + "of one day the last told", x.told(0, mark, 20, 9), 3);
        Check.due(name + "the later day stays", x.told(0, mark, 1999, 9), 5);
        Check.due(name + "the last day", x.told(0, mark, 2000, 9), 99);
        Check.due(name + "as known ahead", x.told(0, mark, 20, 8), 2);
        Check.due(name + "as known ahead, on day 0", x.told(0, mark, 0, 8), 100);
        Check.due(name + "as known on a day to come", x.told(0, mark, 20, 2000), 3);
        Check.due(name + "no telling over", x.thing(0, 9, 5), 0);
        Check.due(name + "the other kept mark", x.told(0, 5 - mark, 2000, 9), 100);
    }

    private static void undone() {
        ThenTables x = two();
        x.mark(0, 0, 0, 1);
        x.mark(0, 1, 0, 1);
        x.mark(0, 2, 10, 1);
        x.load();
        x.day(5);
        x.mark(0, 1, 0, 2);
        x.mark(0, 2, 20, 2);
        x.load();
        x.day(6);
        x.mark(0, 1, 0, 1);
        x.day(10);
        x.undo(1);
        Check.due("kept undone", x.told(0, 2, 20, 10), 1);
        Check.due("kept ahead of the undoing", x.told(0, 2, 20, 9), 2);
        Check.due("over and over ahead of it", x.thing(0, 9, 5), 2);
        Check.due("told over undone", x.thing(0, 10, 5), 0);
        Check.due("fixed still", x.mark(0, 0, 0, 2), false);
        x.undo(0);
        Check.due("fixed anew", x.mark(0, 0, 0, 2), true);
        Check.due("fixed again", x.mark(0, 0, 0, 3), false);
        Check.due("fixed as known then", x.told(0, 0, 0, 9), 1);
        Check.due("fixed as known now", x.told(0, 0, 0, 10), 2);
        Check.due("over as known now", x.told(0, 1, 0, 10), 1);
        Check.due("kept as known now", x.told(0, 2, 20, 10), 100);
        Check.due("kept as known first", x.told(0, 2, 20, 4), 1);
    }

    private static void refused() {
        int max = Integer.MAX_VALUE;
        int min = Integer.MIN_VALUE;
        int[][] wrong = {{-1, 2, 0, 0}, {2, 2, 0, 0}, {0, -1, 0, 0}, {0, 4, 0, 0}, {0, 2, -1, 0}, {0, 2, 2001, 0},
            {0, 2, 0, -1}, {0, 2, 0, 100}, {max, 2, 0, 0}, {min, 2, 0, 0}, {0, max, 0, 0}, {0, min, 0, 0},
            {0, 2, max, 0}, {0, 2, 0, max}, {0, 0, 2001, 0}, {0, 1, 0, 100}};
        ThenTables x = two();
        String ahead = Check.seen(x);
        for (int[] w : wrong) {
            Check.due("mark(" + java.util.Arrays.toString(w) + ")", x.mark(w[0], w[1], w[2], w[3]), false);
        }
        Check.due("after refused marks", Check.seen(x), ahead);
    }

    private static void full() {
        ThenTables x = two();
        for (int i = 0; i < 150; i++) {
            Check.due("telling " + i, x.mark(0, 1 + i % 3, i, i % 100), true);
        }
        x.load();
        x.undo(0);
        for (int i = 150; i < 300; i++) {
            Check.due("telling " + i, x.mark(0, 1 + i % 3, i, i % 100), true);
        }
        Check.due("a 301st", x.mark(0, 2, 2000, 77), false);
        Check.due("a 301st, fixed", x.mark(1, 0, 0, 77), false);
        Check.due("300 are there", x.count(3), 300);
        Check.due("not told", x.told(0, 2, 2000, 0), 298 % 100);
        Check.due("told over 49 times since the undoing", x.thing(0, 0, 5), 49);
        x.load();
        Check.due("undo(1)", x.undo(1), 150);
        Check.due("undone ones count still", x.mark(0, 2, 0, 1), false);
    }

    private static void toldRefused() {
        ThenTables x = new ThenTables();
        x.day(5);
        x.born(1, 100);
        x.mark(0, 1, 0, 8);
        Check.due("on a day ahead of its birth", x.told(0, 1, 0, 5), 8);
        x.ends(0, 200);
        Check.due("on a day behind its end", x.told(0, 1, 2000, 5), 8);
        Check.due("told(0, 1, 0, 4), not known then", x.told(0, 1, 0, 4), -1);
        Check.due("told(0, 2, 0, 4), not known then", x.told(0, 2, 0, 4), -1);
        Check.due("told(1, 1, 0, 5)", x.told(1, 1, 0, 5), -1);
        Check.due("told(-1, 1, 0, 5)", x.told(-1, 1, 0, 5), -1);
        Check.due("told(0, -1, 0, 5)", x.told(0, -1, 0, 5), -1);
        Check.due("told(0, 4, 0, 5)", x.told(0, 4, 0, 5), -1);
        Check.due("told(0, 1, -1, 5)", x.told(0, 1, -1, 5), -1);
        Check.due("told(0, 1, 2001, 5)", x.told(0, 1, 2001, 5), -1);
        Check.due("told(0, 1, 0, -1)", x.told(0, 1, 0, -1), -1);
        Check.due("told(0, 1, 0, 2001)", x.told(0, 1, 0, 2001), -1);
        Check.due("told(max, 1, 0, 5)", x.told(Integer.MAX_VALUE, 1, 0, 5), -1);
    }
}
