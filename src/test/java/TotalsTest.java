/** Promises 15 (then), 16 (by) and 17 (sum). */
public final class TotalsTest {
    public static void main(String[] args) {
        thenAndBy();
        shares();
        partsStayApart();
        nowhere();
        knownAhead();
        refused();
        extremes();
        Check.finish();
    }

    private static void thenAndBy() {
        ThenTables x = new ThenTables();
        x.born(1, 10);
        x.born(2, 10);
        x.mark(0, 2, 10, 5);
        x.mark(0, 2, 20, 6);
        x.mark(1, 2, 15, 6);
        x.fact(1, 19, 1);
        x.fact(1, 20, 10);
        x.fact(2, 14, 100);
        x.fact(2, 15, 1000);
        x.fact(3, 15, 10000);
        Check.due("then 5", x.then(2, 5, 0), 1);
        Check.due("then 6", x.then(2, 6, 0), 1010);
        Check.due("then nothing", x.then(2, 100, 0), 100);
        Check.due("then other mark", x.then(3, 100, 0), 1111);
        Check.due("by 5 on 19", x.by(2, 5, 19, 0), 11);
        Check.due("by 6 on 19", x.by(2, 6, 19, 0), 1100);
        Check.due("by 6 on 20", x.by(2, 6, 20, 0), 1111);
        Check.due("by nothing on 14", x.by(2, 100, 14, 0), 1100);
        Check.due("by nothing on 9, all is nowhere", x.by(2, 100, 9, 0), 0);
        Check.due("nowhere on 9", x.sum(2, 9, 0), 1111);
        Check.due("all", x.sum(0, 9, 0), 11111);
        Check.due("waiting", x.sum(1, 9, 0), 10000);
    }

    private static void shares() {
        ThenTables x = new ThenTables();
        x.born(1, 0);
        x.fact(1, 0, 100);
        x.fact(1, 0, -100);
        x.fact(1, 0, -1);
        x.split(0, 10, 2, 3, 2, 3);
        x.mark(1, 2, 0, 21);
        x.mark(2, 2, 0, 22);
        Check.due("ahead of the split", x.by(2, 100, 9, 0), -1);
        Check.due("first parts cut towards 0", x.by(2, 21, 10, 0), 66 - 66);
        Check.due("second parts", x.by(2, 22, 10, 0), 34 - 34 - 1);
        x.split(1, 20, 4, 5, 0, 7);
        x.mark(3, 3, 20, 33);
        x.mark(4, 3, 20, 34);
        x.fact(2, 12, 50);
        Check.due("none of it", x.by(3, 33, 20, 0), 0);
        Check.due("all of it", x.by(3, 34, 20, 0), 50);
        x.join(2, 4, 30, 6);
        x.mark(5, 3, 0, 35);
        Check.due("joined", x.by(3, 35, 30, 0), 49);
        Check.due("then's thing still", x.then(2, 100, 0), -1);
        Check.due("then's part still", x.then(2, 21, 0), 50);
        x.ends(5, 40);
        Check.due("ended: nowhere", x.sum(2, 40, 0), 49);
        Check.due("not yet ended", x.sum(2, 39, 0), 0);
        Check.due("by, ended", x.by(3, 35, 40, 0), 0);
    }

    /** 7 goes as 3 and 4, which join and go as 1 and 2 and as 2 and 2: not as 3 and 4 once more. */
    private static void partsStayApart() {
        ThenTables x = new ThenTables();
        x.born(1, 0);
        x.fact(1, 0, 7);
        x.split(0, 10, 2, 3, 1, 2);
        x.join(1, 2, 20, 4);
        x.split(3, 30, 5, 6, 1, 2);
        x.mark(4, 2, 0, 1);
        x.mark(5, 2, 0, 2);
        Check.due("first of the parts of parts", x.by(2, 1, 30, 0), 1 + 2);
        Check.due("second of the parts of parts", x.by(2, 2, 30, 0), 2 + 2);
        ThenTables y = new ThenTables();
        y.born(1, 0);
        y.fact(1, 0, 3);
        y.fact(1, 0, 3);
        y.split(0, 10, 2, 3, 1, 2);
        y.mark(1, 2, 0, 1);
        Check.due("each fact is cut by itself", y.by(2, 1, 10, 0), 2);
        ThenTables z = new ThenTables();
        z.born(1, 0);
        z.fact(1, 0, 6);
        z.split(0, 10, 2, 3, 1, 2);
        z.join(1, 2, 20, 4);
        z.split(3, 30, 5, 6, 1, 2);
        z.mark(4, 2, 0, 1);
        Check.due("3 and 3 are cut apart", z.by(2, 1, 30, 0), 2);
    }

    private static void nowhere() {
        ThenTables x = new ThenTables();
        x.born(1, 10);
        x.fact(1, 15, 8);
        x.split(0, 20, 2, 3, 1, 4);
        x.ends(1, 30);
        x.mark(2, 1, 0, 9);
        Check.due("its birth", x.sum(2, 10, 0), 0);
        Check.due("ahead of its birth", x.sum(2, 9, 0), 8);
        Check.due("first part ended", x.sum(2, 30, 0), 2);
        Check.due("second part stays", x.by(1, 9, 30, 0), 6);
        Check.due("all the same", x.sum(0, 30, 0), 8);
        Check.due("none waits", x.sum(1, 30, 0), 0);
        x.fact(7, 15, 64);
        Check.due("who waits isn't nowhere", x.sum(2, 30, 0), 2);
        Check.due("who waits", x.sum(1, 30, 0), 64);
        x.fact(2, 25, 1);
        Check.due("a part isn't there ahead of the split", x.sum(2, 19, 0), 1);
        Check.due("the whole is", x.by(1, 100, 19, 0), 8);
    }

    private static void knownAhead() {
        ThenTables x = new ThenTables();
        x.born(1, 0);
        x.mark(0, 2, 0, 1);
        x.fact(1, 50, 100);
        x.day(3);
        x.split(0, 40, 1, 2, 1, 4);
        x.mark(1, 2, 0, 2);
        x.day(5);
        x.fact(1, 10, 1000);
        x.day(7);
        x.mark(0, 2, 5, 3);
        Check.due("then as known on 2", x.then(2, 1, 2), 100);
        Check.due("by as known on 2", x.by(2, 1, 60, 2), 100);
        Check.due("then as known on 3: on the part", x.then(2, 2, 3), 100);
        Check.due("then as known on 3: not on the old one", x.then(2, 1, 3), 0);
        Check.due("by as known on 3, ahead of the part's birth", x.by(2, 1, 39, 3), 0);
        Check.due("nowhere as known on 3", x.sum(2, 39, 3), 100);
        Check.due("nowhere as known on 2", x.sum(2, 39, 2), 0);
        Check.due("late fact as known on 4", x.sum(0, 0, 4), 100);
        Check.due("late fact as known on 5", x.sum(0, 0, 5), 1100);
        Check.due("late mark as known on 6", x.then(2, 1, 6), 1000);
        Check.due("late mark as known on 7", x.then(2, 3, 7), 1000);
        Check.due("by as known on 7", x.by(2, 2, 60, 7), 100 + 250);
        Check.due("by as known on 7, the rest", x.by(2, 100, 60, 7), 750);
        Check.due("known on a day to come", x.by(2, 100, 60, 2000), 750);
        x.fact(9, 10, 40);
        x.day(8);
        x.born(9, 0);
        x.fact(8, 10, 3);
        Check.due("waiting as known on 7", x.sum(1, 0, 7), 40);
        Check.due("waiting as known on 8", x.sum(1, 0, 8), 3);
        x.mark(4, 0, 0, 0);
        Check.due("a mark of no thing counts nowhere", x.then(0, 0, 8), 0);
        x.mark(3, 0, 0, 0);
        Check.due("then of value 0", x.then(0, 0, 8), 40);
        Check.due("by of value 0", x.by(0, 0, 10, 8), 40);
    }

    private static void refused() {
        ThenTables x = new ThenTables();
        x.born(1, 0);
        x.fact(1, 0, 5);
        x.fact(2, 0, 6);
        Check.due("then as told", x.then(0, 100, 0), 5);
        int[] notMarks = {-1, 4, Integer.MAX_VALUE, Integer.MIN_VALUE};
        int[] notValues = {-1, 101, Integer.MAX_VALUE, Integer.MIN_VALUE};
        int[] notDays = {-1, 2001, Integer.MAX_VALUE, Integer.MIN_VALUE};
        for (int i = 0; i < 4; i++) {
            Check.due("then mark " + notMarks[i], x.then(notMarks[i], 100, 0), 0);
            Check.due("then value " + notValues[i], x.then(0, notValues[i], 0), 0);
            Check.due("then known " + notDays[i], x.then(0, 100, notDays[i]), 0);
            Check.due("by mark " + notMarks[i], x.by(notMarks[i], 100, 0, 0), 0);
            Check.due("by value " + notValues[i], x.by(0, notValues[i], 0, 0), 0);
            Check.due("by day " + notDays[i], x.by(0, 100, notDays[i], 0), 0);
            Check.due("by known " + notDays[i], x.by(0, 100, 0, notDays[i]), 0);
            for (int what = 0; what < 3; what++) {
                Check.due("sum day " + notDays[i], x.sum(what, notDays[i], 0), 0);
                Check.due("sum known " + notDays[i], x.sum(what, 0, notDays[i]), 0);
            }
        }
        Check.due("sum(3, ..)", x.sum(3, 0, 0), 0);
        Check.due("sum(-1, ..)", x.sum(-1, 0, 0), 0);
        Check.due("sum(max, ..)", x.sum(Integer.MAX_VALUE, 0, 0), 0);
        Check.due("by as told", x.by(0, 100, 2000, 2000), 5);
    }

    private static void extremes() {
        ThenTables x = new ThenTables();
        x.born(1, 0);
        for (int i = 0; i < 200; i++) {
            x.fact(1, 2000, i % 2 == 0 ? -10000 : -9999);
        }
        Check.due("the least sum", x.sum(0, 2000, 0), -1999900);
        Check.due("then", x.then(0, 100, 0), -1999900);
        Check.due("by", x.by(0, 100, 0, 0), -1999900);
        x.born(2, 0);
        x.split(1, 5, 3, 4, 99, 100);
        Check.due("a split of another thing", x.by(0, 100, 2000, 0), -1999900);
    }
}
