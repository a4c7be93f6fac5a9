/** Promises 5 (split) and 6 (join). */
public final class SplitJoinTest {
    public static void main(String[] args) {
        split();
        splitRefused();
        splitCodesTaken();
        join();
        joinRefused();
        full();
        Check.finish();
    }

    private static void split() {
        ThenTables x = new ThenTables();
        x.born(1, 10);
        x.day(5);
        Check.due("split(0, 11, 2, 3, 0, 1)", x.split(0, 11, 2, 3, 0, 1), 1);
        int[][] want = {{1, 10, 11, 2, 1}, {2, 11, 2001, 0, -1}, {3, 11, 2001, 0, -1}};
        for (int thing = 0; thing < 3; thing++) {
            for (int what = 0; what < 5; what++) {
                Check.due("split: thing " + thing + " what " + what, x.thing(thing, 5, what), want[thing][what]);
            }
        }
        Check.due("ahead: it lives on", x.thing(0, 4, 2), 2001);
        Check.due("ahead: not ended", x.thing(0, 4, 3), 0);
        Check.due("ahead: no heir", x.thing(0, 4, 4), -1);
        Check.due("ahead: no first part", x.thing(1, 4, 0), -1);
        Check.due("ahead: no second part", x.thing(2, 4, 0), -1);
        Check.due("ahead: found still", x.find(1, 11, 4), 0);
        Check.due("behind: not found", x.find(1, 11, 5), -1);
        Check.due("a share of all, on the last day", x.split(1, 2000, 2, 9, 100, 100), 3);
        Check.due("the code goes on", x.find(2, 2000, 5), 3);
        Check.due("its second part", x.find(9, 2000, 5), 4);
    }

    private static void splitRefused() {
        int max = Integer.MAX_VALUE;
        int min = Integer.MIN_VALUE;
        int[][] wrong = {{-1, 20, 2, 3, 1, 2}, {4, 20, 2, 3, 1, 2}, {1, 60, 2, 3, 1, 2}, {0, 10, 2, 3, 1, 2},
            {0, 9, 2, 3, 1, 2}, {0, -1, 2, 3, 1, 2}, {0, 2001, 2, 3, 1, 2}, {0, 20, -1, 3, 1, 2},
            {0, 20, 100, 3, 1, 2}, {0, 20, 2, -1, 1, 2}, {0, 20, 2, 100, 1, 2}, {0, 20, 2, 2, 1, 2},
            {0, 20, 1, 1, 1, 2}, {0, 20, 2, 3, -1, 2}, {0, 20, 2, 3, 3, 2}, {0, 20, 2, 3, 0, 0},
            {0, 20, 2, 3, 0, -1}, {0, 20, 2, 3, 1, 101}, {0, 20, 2, 3, min, 2}, {0, 20, 2, 3, max, max},
            {max, 20, 2, 3, 1, 2}, {min, 20, 2, 3, 1, 2}, {0, max, 2, 3, 1, 2}, {0, 20, 6, 6, 1, 2}};
        ThenTables x = family();
        String ahead = Check.seen(x);
        for (int[] w : wrong) {
            Check.due("split(" + java.util.Arrays.toString(w) + ")", x.split(w[0], w[1], w[2], w[3], w[4], w[5]), -2);
        }
        Check.due("after refused splits", Check.seen(x), ahead);
    }

    /** Thing 0 of code 1 lives from 10; 1 lived 10 to 50; 2 of code 6 lives from 15; 3 of code 7 from 70. */
    private static ThenTables family() {
        ThenTables x = new ThenTables();
        x.born(1, 10);
        x.born(5, 10);
        x.born(6, 15);
        x.born(7, 70);
        x.ends(1, 50);
        x.fact(1, 30, 100);
        return x;
    }

    private static void splitCodesTaken() {
        ThenTables x = family();
        String ahead = Check.seen(x);
        Check.due("first code lives", x.split(0, 20, 6, 3, 1, 2), -3);
        Check.due("second code lives", x.split(0, 20, 3, 6, 1, 2), -3);
        Check.due("first code is born behind it", x.split(0, 20, 7, 3, 1, 2), -3);
        Check.due("second code is born behind it", x.split(0, 20, 3, 7, 1, 2), -3);
        Check.due("a code that lives up to a later end", x.split(0, 49, 5, 3, 1, 2), -3);
        Check.due("after codes were taken", Check.seen(x), ahead);
        Check.due("its own code and an ended one", x.split(0, 50, 1, 5, 1, 2), 4);
        Check.due("its own code as the second", x.split(4, 60, 8, 1, 1, 2), 6);
        Check.due("find its own code then", x.find(1, 49, 0), 0);
        Check.due("find its own code later", x.find(1, 59, 0), 4);
        Check.due("find its own code last", x.find(1, 60, 0), 7);
    }

    private static void join() {
        ThenTables x = family();
        x.day(5);
        Check.due("join(2, 0, 16, 99)", x.join(2, 0, 16, 99), 4);
        int[][] want = {{1, 10, 16, 3, 4}, {5, 10, 50, 1, -1}, {6, 15, 16, 3, 4}, {7, 70, 2001, 0, -1},
            {99, 16, 2001, 0, -1}};
        for (int thing = 0; thing < 5; thing++) {
            for (int what = 0; what < 5; what++) {
                Check.due("join: thing " + thing + " what " + what, x.thing(thing, 5, what), want[thing][what]);
            }
        }
        Check.due("ahead: one lives on", x.thing(0, 4, 2), 2001);
        Check.due("ahead: the other lives on", x.thing(2, 4, 3), 0);
        Check.due("ahead: no heir", x.thing(2, 4, 4), -1);
        Check.due("ahead: the new one isn't known", x.thing(4, 4, 0), -1);
        Check.due("the first one's code goes on", x.join(4, 3, 2000, 99), 5);
        ThenTables y = family();
        Check.due("the second one's code goes on", y.join(0, 2, 60, 6), 4);
    }

    private static void joinRefused() {
        int max = Integer.MAX_VALUE;
        int[][] wrong = {{0, 0, 20, 3}, {-1, 0, 20, 3}, {0, -1, 20, 3}, {0, 4, 20, 3}, {4, 0, 20, 3}, {0, 1, 60, 3},
            {1, 0, 60, 3}, {0, 2, 15, 3}, {2, 0, 15, 3}, {0, 2, 10, 3}, {0, 3, 70, 3}, {0, 2, -1, 3}, {0, 2, 2001, 3},
            {0, 2, 20, -1}, {0, 2, 20, 100}, {0, 2, max, 3}, {max, 2, 20, 3}, {0, max, 20, 3}, {-1, -1, 20, 3}};
        ThenTables x = family();
        String ahead = Check.seen(x);
        for (int[] w : wrong) {
            Check.due("join(" + java.util.Arrays.toString(w) + ")", x.join(w[0], w[1], w[2], w[3]), -2);
        }
        Check.due("a code that lives", x.join(0, 2, 20, 5), -3);
        Check.due("a code that is born behind it", x.join(0, 2, 20, 7), -3);
        Check.due("after refused joins", Check.seen(x), ahead);
        Check.due("a code that has ended", x.join(0, 2, 50, 5), 4);
    }

    private static void full() {
        ThenTables x = new ThenTables();
        for (int i = 0; i < 38; i++) {
            x.born(i, 3);
        }
        Check.due("with 38", x.split(0, 4, 50, 51, 1, 2), 38);
        Check.due("join with 40", x.join(1, 2, 4, 52), -4);
        Check.due("split with 40", x.split(1, 4, 52, 53, 1, 2), -4);
        Check.due("taken with 40", x.split(1, 4, 50, 53, 1, 2), -3);
        Check.due("not as told with 40", x.split(1, 3, 52, 53, 1, 2), -2);
        Check.due("join taken with 40", x.join(1, 2, 4, 3), -3);
        Check.due("join not as told with 40", x.join(1, 1, 4, 52), -2);
        Check.due("not ended", x.thing(1, 0, 2), 2001);
        ThenTables y = new ThenTables();
        for (int i = 0; i < 39; i++) {
            y.born(i, 3);
        }
        Check.due("split with 39", y.split(0, 4, 50, 51, 1, 2), -4);
        Check.due("no half of it", y.count(1), 39);
        Check.due("it lives on", y.thing(0, 0, 3), 0);
        Check.due("join with 39", y.join(0, 1, 4, 50), 39);
    }
}
