import java.util.ArrayList;
import java.util.List;
import java.util.TreeSet;

/** What can be asked of a store, so that two stores that should be alike can be held against each other. */
final class Questions {
    private static final int[] SOME_DAYS = {0, 10, 11, 20, 2000};
    private static final int[] SOME_VALUES = {0, 1, 2, 5, 99, 100};

    private final List<Call> asked = new ArrayList<>();
    private final int today;
    private final int things;
    private final int facts;
    private final TreeSet<Integer> knownDays = new TreeSet<>();

    private Questions(ThenTables x) {
        today = x.count(0);
        things = x.count(1);
        facts = x.count(2);
        for (int known : new int[] {0, today - 1, today, 2000}) {
            if (known >= 0) {
                knownDays.add(known);
            }
        }
    }

    static List<Call> about(ThenTables x) {
        Questions all = new Questions(x);
        all.counts();
        all.things();
        all.facts();
        all.totals();
        all.years();
        return all.asked;
    }

    /** Tellings that show by their answers, and by what is asked behind them, whether all is as it was. */
    static List<Call> tellingsBehind(ThenTables x) {
        int today = x.count(0);
        int open = x.count(4);
        List<Call> all = new ArrayList<>();
        all.add(new Call("mark", 0, 1, 10, 98));
        all.add(new Call("mark", 0, 2, 10, 97));
        all.add(new Call("fact", 1, 10, 640));
        all.add(new Call("load"));
        all.add(new Call("day", today + 1));
        all.add(new Call("undo", open));
        all.add(new Call("born", 98, 10));
        all.add(new Call("mark", 0, 0, 10, 96));
        all.add(new Call("ends", 0, 2000));
        return all;
    }

    private void add(String name, int... arguments) {
        asked.add(new Call(name, arguments));
    }

    private void counts() {
        for (int what = 0; what < 6; what++) {
            add("count", what);
        }
    }

    private void things() {
        for (int known : knownDays) {
            for (int thing = 0; thing <= things; thing++) {
                for (int what = 0; what < 6; what++) {
                    add("thing", thing, known, what);
                }
                for (int mark = 0; mark < 4; mark++) {
                    add("told", thing, mark, 0, known);
                    add("told", thing, mark, 10, known);
                    add("told", thing, mark, 2000, known);
                }
            }
        }
        for (int code = 0; code < 100; code++) {
            add("find", code, 11, today);
            add("find", code, 2000, today);
        }
    }

    private void facts() {
        for (int known : knownDays) {
            for (int fact = 0; fact <= facts; fact++) {
                add("hangs", fact, known);
            }
        }
    }

    private void totals() {
        for (int known : knownDays) {
            for (int mark = 0; mark < 4; mark++) {
                for (int value : SOME_VALUES) {
                    add("then", mark, value, known);
                    add("by", mark, value, 10, known);
                    add("by", mark, value, 2000, known);
                }
            }
            for (int day : SOME_DAYS) {
                for (int what = 0; what < 3; what++) {
                    add("sum", what, day, known);
                }
            }
        }
    }

    private void years() {
        for (int mark = 0; mark < 4; mark++) {
            for (int what = 0; what < 4; what++) {
                add("compare", mark, 0, 2000, today, what);
                add("compare", mark, 10, 11, today, what);
                add("compare", mark, 2000, 10, today, what);
            }
        }
    }
}
