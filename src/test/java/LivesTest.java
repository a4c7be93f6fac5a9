/** Promises 3 (born), 4 (ends), 12 (thing, but for what 5) and 14 (find). */
public final class LivesTest {
    public static void main(String[] args) {
        born();
        bornFull();
        ends();
        thing();
        find();
        Check.finish();
    }

    private static void born() {
        ThenTables x = new ThenTables();
        int[][] wrong = {{-1, 0}, {100, 0}, {0, -1}, {0, 2001}, {Integer.MIN_VALUE, 0}, {Integer.MAX_VALUE, 0},
            {0, Integer.MAX_VALUE}, {0, Integer.MIN_VALUE}};
        for (int[] w : wrong) {
            Check.due("born(" + w[0] + ", " + w[1] + ")", x.born(w[0], w[1]), -2);
        }
        Check.due("none is there", x.count(1), 0);
        Check.due("born(0, 2000)", x.born(0, 2000), 0);
        Check.due("born(99, 0)", x.born(99, 0), 1);
        Check.due("born(99, 0) again", x.born(99, 0), -3);
        Check.due("born(99, 2000), it lives", x.born(99, 2000), -3);
        Check.due("born(0, 1999), one is born behind it", x.born(0, 1999), -3);
        Check.due("born(0, 0), one is born behind it", x.born(0, 0), -3);
        Check.due("two are there", x.count(1), 2);
        x.ends(1, 50);
        Check.due("born(99, 49), it lives still", x.born(99, 49), -3);
        Check.due("born(99, 50), it has ended", x.born(99, 50), 2);
        Check.due("born(99, 20), among both", x.born(99, 20), -3);

        ThenTables y = new ThenTables();
        y.born(4, 30);
        y.ends(0, 40);
        Check.due("born(4, 10), one lived behind it", y.born(4, 10), -3);
        Check.due("born(4, 40)", y.born(4, 40), 1);
    }

    private static void bornFull() {
        ThenTables x = new ThenTables();
        for (int i = 0; i < 40; i++) {
            Check.due("born(" + i + ", 3)", x.born(i, 3), i);
        }
        Check.due("a 41st", x.born(40, 3), -4);
        Check.due("a 41st of a taken code", x.born(39, 3), -3);
        Check.due("a 41st not as told", x.born(100, 3), -2);
        Check.due("40 are there", x.count(1), 40);
        Check.due("the last one's end", x.ends(39, 4), true);
        Check.due("no room though one ended", x.born(39, 4), -4);
    }

    private static void ends() {
        ThenTables x = new ThenTables();
        x.born(1, 10);
        x.born(2, 1999);
        x.born(3, 2000);
        int[][] wrong = {{-1, 20}, {3, 20}, {0, 10}, {0, 9}, {0, -1}, {0, 2001}, {2, 2000}, {2, 2001},
            {Integer.MAX_VALUE, 20}, {Integer.MIN_VALUE, 20}, {0, Integer.MAX_VALUE}, {0, Integer.MIN_VALUE}};
        String ahead = Check.seen(x);
        for (int[] w : wrong) {
            Check.due("ends(" + w[0] + ", " + w[1] + ")", x.ends(w[0], w[1]), false);
        }
        Check.due("after refused ends", Check.seen(x), ahead);
        Check.due("ends(0, 11)", x.ends(0, 11), true);
        Check.due("ends(0, 12), it has an end", x.ends(0, 12), false);
        Check.due("its end", x.thing(0, 0, 2), 11);
        Check.due("ends(1, 2000)", x.ends(1, 2000), true);
        Check.due("ends at 2000", x.thing(1, 0, 2), 2000);
        x.born(5, 0);
        x.born(6, 0);
        x.split(3, 30, 7, 8, 1, 2);
        Check.due("ends of a split one", x.ends(3, 40), false);
        x.join(4, 5, 40, 9);
        Check.due("ends of a joined one", x.ends(4, 50), false);
    }

    private static void thing() {
        ThenTables x = new ThenTables();
        x.day(5);
        x.born(7, 100);
        for (int what = 0; what < 6; what++) {
            Check.due("ahead of its news, what " + what, x.thing(0, 4, what), -1);
        }
        int[] first = {7, 100, 2001, 0, -1, 0};
        dueThing(x, 0, 5, first);
        x.day(9);
        x.ends(0, 150);
        int[] ended = {7, 100, 150, 1, -1, 0};
        dueThing(x, 0, 5, first);
        dueThing(x, 0, 8, first);
        dueThing(x, 0, 9, ended);
        dueThing(x, 0, 2000, ended);
        Check.due("thing(0, 9, 6)", x.thing(0, 9, 6), -1);
        Check.due("thing(0, 9, -1)", x.thing(0, 9, -1), -1);
        Check.due("thing(1, 9, 0)", x.thing(1, 9, 0), -1);
        Check.due("thing(-1, 9, 0)", x.thing(-1, 9, 0), -1);
        Check.due("thing(40, 9, 0)", x.thing(40, 9, 0), -1);
        Check.due("thing(0, -1, 0)", x.thing(0, -1, 0), -1);
        Check.due("thing(0, 2001, 0)", x.thing(0, 2001, 0), -1);
        Check.due("thing(max, max, max)",
                x.thing(Integer.MAX_VALUE, Integer.MAX_VALUE, Integer.MAX_VALUE), -1);
    }

    private static void dueThing(ThenTables x, int thing, int known, int[] want) {
        for (int what = 0; what < want.length; what++) {
            Check.due("thing(" + thing + ", " + known + ", " + what + ")", x.thing(thing, known, what), want[what]);
        }
    }

    private static void find() {
        ThenTables x = new ThenTables();
        x.day(3);
        x.born(7, 100);
        x.day(6);
        x.ends(0, 200);
        x.day(8);
        x.born(7, 250);
        Check.due("ahead of its birth", x.find(7, 99, 8), -1);
        Check.due("on its birth", x.find(7, 100, 8), 0);
        Check.due("on its last day", x.find(7, 199, 8), 0);
        Check.due("on its end", x.find(7, 200, 8), -1);
        Check.due("among both", x.find(7, 249, 8), -1);
        Check.due("the second one", x.find(7, 250, 8), 1);
        Check.due("the last day", x.find(7, 2000, 8), 1);
        Check.due("ahead of the news of the second", x.find(7, 250, 7), -1);
        Check.due("ahead of the news of the end", x.find(7, 250, 5), 0);
        Check.due("on the first news", x.find(7, 2000, 3), 0);
        Check.due("ahead of all news", x.find(7, 100, 2), -1);
        Check.due("known on a day to come", x.find(7, 300, 2000), 1);
        Check.due("another code", x.find(8, 150, 8), -1);
        Check.due("find(-1, ..)", x.find(-1, 150, 8), -1);
        Check.due("find(100, ..)", x.find(100, 150, 8), -1);
        Check.due("find(7, -1, 8)", x.find(7, -1, 8), -1);
        Check.due("find(7, 2001, 8)", x.find(7, 2001, 8), -1);
        Check.due("find(7, 150, -1)", x.find(7, 150, -1), -1);
        Check.due("find(7, 150, 2001)", x.find(7, 150, 2001), -1);
    }
}
