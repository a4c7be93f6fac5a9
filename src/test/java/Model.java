import java.util.ArrayDeque;
import java.util.ArrayList;
import java.util.Comparator;
import java.util.HashSet;
import java.util.List;
import java.util.Set;

/**
 * The document once more, told another way: all news is kept as it came, and what is known on a day is built anew
 * from the news up to that day.
 */
final class Model {
    private static final int BORN = 0;
    private static final int ENDS = 1;
    private static final int SPLIT = 2;
    private static final int JOIN = 3;
    private static final int MARK = 4;
    private static final int FACT = 5;
    private static final int UNDO = 6;

    /** Each: the day on which it came, the load that was open, the kind, and the call's arguments. */
    private final List<int[]> news = new ArrayList<>();
    private int today = 0;
    private int open = 0;

    private static final class Thing {
        int code;
        int birth;
        int end = 2001;
        int how = 0;
        int heir = -1;
        int p = 0;
        int q = 0;

        boolean livesOn(int day) {
            return birth <= day && day < end;
        }
    }

    /** What is known on one day. */
    private static final class View {
        final List<Thing> things = new ArrayList<>();
        final List<int[]> marks = new ArrayList<>();
        final List<int[]> facts = new ArrayList<>();
        final Set<Integer> undone = new HashSet<>();

        void take(int[] n) {
            switch (n[2]) {
                case BORN -> add(n[3], n[4]);
                case ENDS -> end(n[3], n[4], 1, -1);
                case SPLIT -> {
                    end(n[3], n[4], 2, things.size());
                    things.get(n[3]).p = n[7];
                    things.get(n[3]).q = n[8];
                    add(n[5], n[4]);
                    add(n[6], n[4]);
                }
                case JOIN -> {
                    end(n[3], n[5], 3, things.size());
                    end(n[4], n[5], 3, things.size());
                    add(n[6], n[5]);
                }
                case MARK -> marks.add(n);
                case FACT -> facts.add(n);
                default -> undone.add(n[3]);
            }
        }

        private void add(int code, int birth) {
            Thing t = new Thing();
            t.code = code;
            t.birth = birth;
            things.add(t);
        }

        private void end(int thing, int day, int how, int heir) {
            Thing t = things.get(thing);
            t.end = day;
            t.how = how;
            t.heir = heir;
        }

        List<int[]> marksOf(int thing, int mark) {
            List<int[]> all = new ArrayList<>();
            for (int[] n : marks) {
                if (n[3] == thing && n[4] == mark && !undone.contains(n[1])) {
                    all.add(n);
                }
            }
            return all;
        }

        int value(int thing, int mark, int day) {
            List<int[]> all = marksOf(thing, mark);
            if (mark >= 2) {
                all.removeIf(n -> n[5] > day);
                all.sort(Comparator.comparingInt(n -> n[5]));
            }
            return all.isEmpty() ? 100 : all.get(all.size() - 1)[6];
        }

        int living(int code, int day) {
            int found = -1;
            for (int t = 0; t < things.size(); t++) {
                if (things.get(t).code == code && things.get(t).livesOn(day)) {
                    if (found != -1) {
                        throw new IllegalStateException("two of one code live on one day");
                    }
                    found = t;
                }
            }
            return found;
        }

        /** The total of a mark's value on a day, or of what is nowhere (mark -1). */
        long carried(int mark, int value, int day) {
            long total = 0;
            ArrayDeque<int[]> parts = new ArrayDeque<>();
            for (int[] n : facts) {
                int thing = undone.contains(n[1]) ? -1 : living(n[3], n[4]);
                if (thing != -1) {
                    parts.add(new int[] {thing, n[5]});
                }
            }
            while (!parts.isEmpty()) {
                int[] part = parts.remove();
                Thing t = things.get(part[0]);
                boolean gone = day < t.birth || (day >= t.end && t.how == 1);
                if (gone) {
                    total += mark == -1 ? part[1] : 0;
                } else if (t.livesOn(day)) {
                    total += mark != -1 && value(part[0], mark, day) == value ? part[1] : 0;
                } else if (t.how == 2) {
                    int size = Math.abs(part[1]) * t.p / t.q;
                    int first = part[1] < 0 ? -size : size;
                    parts.add(new int[] {t.heir, first});
                    parts.add(new int[] {t.heir + 1, part[1] - first});
                } else {
                    parts.add(new int[] {t.heir, part[1]});
                }
            }
            return total;
        }
    }

    private View known(int day) {
        View view = new View();
        for (int[] n : news) {
            if (n[0] <= day) {
                view.take(n);
            }
        }
        return view;
    }

    private View now() {
        return known(2000);
    }

    private void tell(int... callAndArguments) {
        int[] n = new int[callAndArguments.length + 2];
        n[0] = today;
        n[1] = open;
        System.arraycopy(callAndArguments, 0, n, 2, callAndArguments.length);
        news.add(n);
    }

    private static boolean in(int x, int low, int high) {
        return low <= x && x <= high;
    }

    private static boolean isDay(int d) {
        return in(d, 0, 2000);
    }

    /** The answer to a call: its number in the order of the document's face, and its arguments. */
    long call(int which, int[] a) {
        return switch (which) {
            case 0 -> day(a[0]);
            case 1 -> born(a[0], a[1]);
            case 2 -> ends(a[0], a[1]);
            case 3 -> split(a);
            case 4 -> join(a);
            case 5 -> mark(a);
            case 6 -> fact(a);
            case 7 -> open < 39 ? ++open : -1;
            case 8 -> undo(a[0]);
            case 9 -> told(a);
            case 10 -> thing(a);
            case 11 -> hangs(a);
            case 12 -> in(a[0], 0, 99) && isDay(a[1]) && isDay(a[2]) ? known(a[2]).living(a[0], a[1]) : -1;
            case 13 -> then(a);
            case 14 -> in(a[0], 0, 3) && in(a[1], 0, 100) && isDay(a[2]) && isDay(a[3])
                    ? known(a[3]).carried(a[0], a[1], a[2]) : 0;
            case 15 -> sum(a);
            case 16 -> compare(a);
            default -> count(a[0]);
        };
    }

    private long day(int d) {
        if (!in(d, today + 1, 2000)) {
            return 0;
        }
        today = d;
        return 1;
    }

    private static boolean taken(View v, int code, int day) {
        for (Thing t : v.things) {
            if (t.code == code && (t.livesOn(day) || t.birth > day)) {
                return true;
            }
        }
        return false;
    }

    private long born(int code, int day) {
        if (!in(code, 0, 99) || !isDay(day)) {
            return -2;
        }
        View v = now();
        if (taken(v, code, day)) {
            return -3;
        }
        if (v.things.size() == 40) {
            return -4;
        }
        tell(BORN, code, day);
        return v.things.size();
    }

    private static boolean mayEnd(View v, int thing, int day) {
        return in(thing, 0, v.things.size() - 1) && v.things.get(thing).how == 0
                && in(day, v.things.get(thing).birth + 1, 2000);
    }

    private long ends(int thing, int day) {
        if (!mayEnd(now(), thing, day)) {
            return 0;
        }
        tell(ENDS, thing, day);
        return 1;
    }

    private long split(int[] a) {
        View v = now();
        if (!mayEnd(v, a[0], a[1]) || !in(a[2], 0, 99) || !in(a[3], 0, 99) || a[2] == a[3]
                || !in(a[5], 1, 100) || !in(a[4], 0, a[5])) {
            return -2;
        }
        v.things.get(a[0]).end = a[1];
        if (taken(v, a[2], a[1]) || taken(v, a[3], a[1])) {
            return -3;
        }
        if (v.things.size() >= 39) {
            return -4;
        }
        tell(SPLIT, a[0], a[1], a[2], a[3], a[4], a[5]);
        return v.things.size();
    }

    private long join(int[] a) {
        View v = now();
        if (a[0] == a[1] || !mayEnd(v, a[0], a[2]) || !mayEnd(v, a[1], a[2]) || !in(a[3], 0, 99)) {
            return -2;
        }
        v.things.get(a[0]).end = a[2];
        v.things.get(a[1]).end = a[2];
        if (taken(v, a[3], a[2])) {
            return -3;
        }
        if (v.things.size() >= 40) {
            return -4;
        }
        tell(JOIN, a[0], a[1], a[2], a[3]);
        return v.things.size();
    }

    private long mark(int[] a) {
        View v = now();
        boolean asTold = in(a[0], 0, v.things.size() - 1) && in(a[1], 0, 3) && isDay(a[2]) && in(a[3], 0, 99);
        if (!asTold || v.marks.size() == 300 || (a[1] == 0 && !v.marksOf(a[0], 0).isEmpty())) {
            return 0;
        }
        tell(MARK, a[0], a[1], a[2], a[3]);
        return 1;
    }

    private long fact(int[] a) {
        int number = now().facts.size();
        if (!in(a[0], 0, 99) || !isDay(a[1]) || !in(a[2], -10000, 10000) || number == 200) {
            return -1;
        }
        tell(FACT, a[0], a[1], a[2]);
        return number;
    }

    private long undo(int load) {
        View v = now();
        if (!in(load, 0, open - 1) || v.undone.contains(load)) {
            return -1;
        }
        int n = 0;
        for (int[] m : news) {
            n += m[1] == load && (m[2] == MARK || m[2] == FACT) ? 1 : 0;
        }
        tell(UNDO, load);
        return n;
    }

    private long told(int[] a) {
        if (!isDay(a[3]) || !isDay(a[2]) || !in(a[1], 0, 3)) {
            return -1;
        }
        View v = known(a[3]);
        return in(a[0], 0, v.things.size() - 1) ? v.value(a[0], a[1], a[2]) : -1;
    }

    private long thing(int[] a) {
        if (!isDay(a[1])) {
            return -1;
        }
        View v = known(a[1]);
        if (!in(a[0], 0, v.things.size() - 1)) {
            return -1;
        }
        Thing t = v.things.get(a[0]);
        List<int[]> over = v.marksOf(a[0], 1);
        int times = 0;
        for (int i = 1; i < over.size(); i++) {
            times += over.get(i)[6] != over.get(i - 1)[6] ? 1 : 0;
        }
        return switch (a[2]) {
            case 0 -> t.code;
            case 1 -> t.birth;
            case 2 -> t.end;
            case 3 -> t.how;
            case 4 -> t.heir;
            case 5 -> times;
            default -> -1;
        };
    }

    private long hangs(int[] a) {
        if (!isDay(a[1])) {
            return -2;
        }
        View v = known(a[1]);
        if (!in(a[0], 0, v.facts.size() - 1) || v.undone.contains(v.facts.get(a[0])[1])) {
            return -2;
        }
        return v.living(v.facts.get(a[0])[3], v.facts.get(a[0])[4]);
    }

    private long then(int[] a) {
        if (!in(a[0], 0, 3) || !in(a[1], 0, 100) || !isDay(a[2])) {
            return 0;
        }
        View v = known(a[2]);
        long total = 0;
        for (int[] n : v.facts) {
            int t = v.undone.contains(n[1]) ? -1 : v.living(n[3], n[4]);
            total += t != -1 && v.value(t, a[0], n[4]) == a[1] ? n[5] : 0;
        }
        return total;
    }

    private long sum(int[] a) {
        if (!in(a[0], 0, 2) || !isDay(a[1]) || !isDay(a[2])) {
            return 0;
        }
        View v = known(a[2]);
        if (a[0] == 2) {
            return v.carried(-1, 0, a[1]);
        }
        long total = 0;
        for (int[] n : v.facts) {
            boolean counts = a[0] == 0 || v.living(n[3], n[4]) == -1;
            total += counts && !v.undone.contains(n[1]) ? n[5] : 0;
        }
        return total;
    }

    private long compare(int[] a) {
        if (!in(a[0], 0, 3) || !isDay(a[1]) || !isDay(a[2]) || !isDay(a[3]) || !in(a[4], 0, 3)) {
            return -1;
        }
        View v = known(a[3]);
        int[] n = new int[4];
        for (int t = 0; t < v.things.size(); t++) {
            boolean d = v.things.get(t).livesOn(a[1]);
            boolean e = v.things.get(t).livesOn(a[2]);
            n[0] += d && e ? 1 : 0;
            n[1] += !d && e ? 1 : 0;
            n[2] += d && !e ? 1 : 0;
            n[3] += d && e && v.value(t, a[0], a[1]) != v.value(t, a[0], a[2]) ? 1 : 0;
        }
        return n[a[4]];
    }

    private long count(int what) {
        View v = now();
        return switch (what) {
            case 0 -> today;
            case 1 -> v.things.size();
            case 2 -> v.facts.size();
            case 3 -> v.marks.size();
            case 4 -> open;
            case 5 -> v.undone.size();
            default -> -1;
        };
    }
}
