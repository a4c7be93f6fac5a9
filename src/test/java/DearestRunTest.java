/** The run whose carrying has the most ways: splits and joins in turn, as far as 40 things go, with all 200 facts. */
public final class DearestRunTest {
    public static void main(String[] args) {
        ThenTables x = new ThenTables();
        x.born(0, 0);
        for (int i = 0; i < 200; i++) {
            x.fact(0, 0, i % 2 == 0 ? 10000 - i : i - 10000);
        }
        long all = x.sum(0, 0, 0);
        int last = 0;
        for (int i = 0; i < 13; i++) {
            int first = x.split(last, 10 + 20 * i, 1, 2, 49, 100);
            last = x.join(first, first + 1, 20 + 20 * i, 0);
        }
        Check.due("40 things", x.count(1), 40);
        Check.due("the last one", last, 39);
        for (int i = 0; i < 20; i++) {
            Check.due("by on 2000", x.by(i % 4, 100, 2000, 0), all);
            Check.due("nowhere on 2000", x.sum(2, 2000, 0), 0);
        }
        x.ends(last, 1000);
        Check.due("nowhere once it ended", x.sum(2, 2000, 0), all);
        chain();
        Check.finish();
    }

    /** The longest chain: each join takes the last heir and a thing of its own. */
    private static void chain() {
        ThenTables x = new ThenTables();
        for (int i = 0; i < 20; i++) {
            x.born(i, 0);
        }
        x.fact(0, 0, 77);
        int last = 0;
        for (int i = 1; i < 20; i++) {
            last = x.join(last, i, i, 50 + i);
        }
        Check.due("the chain's last", last, 38);
        x.mark(last, 2, 0, 5);
        Check.due("carried along the chain", x.by(2, 5, 2000, 0), 77);

        ThenTables y = new ThenTables();
        y.born(0, 0);
        y.fact(0, 0, 77);
        last = 0;
        for (int i = 1; i < 20; i++) {
            last = y.split(last, i, 2 * i, 2 * i + 1, 1, 1);
        }
        y.mark(last, 2, 0, 5);
        Check.due("carried along the splits", y.by(2, 5, 2000, 0), 77);
    }
}
