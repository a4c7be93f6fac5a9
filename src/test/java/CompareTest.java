/** Promise 18 (compare). */
public final class CompareTest {
    public static void main(String[] args) {
        years();
        knownAhead();
        refused();
        Check.finish();
    }

    /** 0 lives on both days, 1 on the first alone, 2 on the second alone, 3 on neither, 4 and 5 on both. */
    private static ThenTables store() {
        ThenTables x = new ThenTables();
        x.born(10, 0);
        x.born(11, 100);
        x.born(12, 200);
        x.born(13, 101);
        x.born(14, 100);
        x.born(15, 50);
        x.ends(1, 200);
        x.ends(3, 200);
        x.ends(4, 201);
        x.mark(0, 2, 0, 1);
        x.mark(0, 2, 150, 2);
        x.mark(4, 2, 150, 2);
        x.mark(5, 2, 100, 2);
        x.mark(5, 2, 200, 2);
        x.mark(2, 2, 150, 2);
        x.mark(1, 2, 150, 2);
        x.mark(0, 1, 0, 1);
        x.mark(0, 1, 150, 2);
        return x;
    }

    private static void years() {
        ThenTables x = store();
        dueAll(x, 2, 100, 200, 0, new int[] {3, 1, 1, 2});
        dueAll(x, 2, 200, 100, 0, new int[] {3, 1, 1, 2});
        dueAll(x, 3, 100, 200, 0, new int[] {3, 1, 1, 0});
        dueAll(x, 1, 100, 200, 0, new int[] {3, 1, 1, 0});
        dueAll(x, 0, 100, 200, 0, new int[] {3, 1, 1, 0});
        dueAll(x, 2, 100, 100, 0, new int[] {4, 0, 0, 0});
        dueAll(x, 2, 0, 2000, 0, new int[] {1, 2, 0, 1});
        dueAll(x, 2, 2000, 0, 0, new int[] {1, 0, 2, 1});
        dueAll(x, 2, 150, 160, 0, new int[] {5, 0, 0, 0});
    }

    private static void dueAll(ThenTables x, int mark, int d, int e, int known, int[] want) {
        for (int what = 0; what < 4; what++) {
            Check.due("compare(" + mark + ", " + d + ", " + e + ", " + known + ", " + what + ")",
                    x.compare(mark, d, e, known, what), want[what]);
        }
    }

    private static void knownAhead() {
        ThenTables x = new ThenTables();
        x.born(1, 0);
        x.born(2, 0);
        x.day(5);
        x.load();
        x.split(0, 50, 3, 4, 1, 2);
        x.mark(1, 3, 50, 7);
        x.load();
        x.day(8);
        x.undo(1);
        dueAll(x, 3, 0, 60, 4, new int[] {2, 0, 0, 0});
        dueAll(x, 3, 0, 60, 5, new int[] {1, 2, 1, 1});
        dueAll(x, 3, 0, 60, 7, new int[] {1, 2, 1, 1});
        dueAll(x, 3, 0, 60, 8, new int[] {1, 2, 1, 0});
        dueAll(x, 3, 0, 60, 2000, new int[] {1, 2, 1, 0});
        x.mark(1, 3, 0, 7);
        x.day(9);
        x.ends(1, 30);
        x.born(9, 0);
        dueAll(x, 3, 40, 60, 8, new int[] {1, 2, 1, 0});
        dueAll(x, 3, 40, 60, 9, new int[] {1, 2, 1, 0});
        dueAll(x, 3, 0, 40, 8, new int[] {2, 0, 0, 0});
        dueAll(x, 3, 0, 40, 7, new int[] {2, 0, 0, 0});
        dueAll(x, 3, 0, 60, 7, new int[] {1, 2, 1, 1});
        dueAll(x, 3, 60, 0, 7, new int[] {1, 1, 2, 1});
        dueAll(x, 3, 60, 0, 9, new int[] {1, 2, 2, 0});
    }

    private static void refused() {
        ThenTables x = store();
        int[] notDays = {-1, 2001, Integer.MAX_VALUE, Integer.MIN_VALUE};
        int[] notMarks = {-1, 4, Integer.MAX_VALUE, Integer.MIN_VALUE};
        for (int i = 0; i < 4; i++) {
            for (int what = 0; what < 4; what++) {
                Check.due("compare mark " + notMarks[i], x.compare(notMarks[i], 100, 200, 0, what), -1);
                Check.due("compare d " + notDays[i], x.compare(2, notDays[i], 200, 0, what), -1);
                Check.due("compare e " + notDays[i], x.compare(2, 100, notDays[i], 0, what), -1);
                Check.due("compare known " + notDays[i], x.compare(2, 100, 200, notDays[i], what), -1);
            }
            Check.due("compare what " + notMarks[i], x.compare(2, 100, 200, 0, notMarks[i]), -1);
        }
    }
}
