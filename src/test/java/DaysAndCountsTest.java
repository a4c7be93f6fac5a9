/** Promises 1 (a new object), 2 (day) and 19 (count). */
public final class DaysAndCountsTest {
    public static void main(String[] args) {
        aNewObject();
        days();
        counts();
        Check.finish();
    }

    private static void aNewObject() {
        ThenTables x = new ThenTables();
        for (int what = 0; what < 6; what++) {
            Check.due("new: count(" + what + ")", x.count(what), 0);
        }
        Check.due("NONE", ThenTables.NONE, -1);
        Check.due("new: thing(0, 0, 0)", x.thing(0, 0, 0), -1);
        Check.due("new: told(0, 0, 0, 0)", x.told(0, 0, 0, 0), -1);
        Check.due("new: hangs(0, 0)", x.hangs(0, 0), -2);
        Check.due("new: find(0, 0, 0)", x.find(0, 0, 0), -1);
        Check.due("new: then(0, 100, 0)", x.then(0, 100, 0), 0);
        Check.due("new: by(0, 100, 0, 0)", x.by(0, 100, 0, 0), 0);
        Check.due("new: sum(0, 0, 0)", x.sum(0, 0, 0), 0);
        Check.due("new: compare(0, 0, 0, 0, 0)", x.compare(0, 0, 0, 0, 0), 0);
        Check.due("new: undo(0), it is open", x.undo(0), -1);
        Check.due("new: load()", x.load(), 1);
        Check.due("new: undo(0)", x.undo(0), 0);
    }

    private static void days() {
        ThenTables x = new ThenTables();
        Check.due("day(0) on 0", x.day(0), false);
        Check.due("day(-1)", x.day(-1), false);
        Check.due("day(2001)", x.day(2001), false);
        Check.due("day(max)", x.day(Integer.MAX_VALUE), false);
        Check.due("day(min)", x.day(Integer.MIN_VALUE), false);
        Check.due("still 0", x.count(0), 0);
        Check.due("day(1)", x.day(1), true);
        Check.due("day(1) again", x.day(1), false);
        Check.due("day(0) behind 1", x.day(0), false);
        Check.due("is 1", x.count(0), 1);
        Check.due("day(2000)", x.day(2000), true);
        Check.due("day(2000) again", x.day(2000), false);
        Check.due("day(2001) on 2000", x.day(2001), false);
        Check.due("is 2000", x.count(0), 2000);
    }

    private static void counts() {
        ThenTables x = new ThenTables();
        x.day(7);
        x.born(1, 0);
        x.born(2, 0);
        x.mark(0, 1, 0, 3);
        x.mark(0, 1, 0, 3);
        x.mark(1, 2, 0, 3);
        x.fact(1, 5, 9);
        x.load();
        x.fact(8, 5, 9);
        x.load();
        x.undo(0);
        Check.due("count(0)", x.count(0), 7);
        Check.due("count(1)", x.count(1), 2);
        Check.due("count(2), with those undone", x.count(2), 2);
        Check.due("count(3), with those undone", x.count(3), 3);
        Check.due("count(4)", x.count(4), 2);
        Check.due("count(5)", x.count(5), 1);
        x.undo(1);
        Check.due("count(5) after two", x.count(5), 2);
        x.split(0, 9, 4, 5, 1, 2);
        Check.due("count(1) after a split", x.count(1), 4);
        x.join(2, 3, 10, 6);
        Check.due("count(1) after a join", x.count(1), 5);
        Check.due("count(6)", x.count(6), -1);
        Check.due("count(-1)", x.count(-1), -1);
        Check.due("count(max)", x.count(Integer.MAX_VALUE), -1);
        Check.due("count(min)", x.count(Integer.MIN_VALUE), -1);
    }
}
