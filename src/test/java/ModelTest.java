import java.util.Arrays;
import java.util.Random;

/** All promises at once: long runs of calls, each answered by the program and by the model. */
public final class ModelTest {
    private static final int RUNS = 1200;
    private static final int CALLS = 512;
    private static final String[] NAMES = {"day", "born", "ends", "split", "join", "mark", "fact", "load", "undo",
        "told", "thing", "hangs", "find", "then", "by", "sum", "compare", "count"};

    /** How often each call comes, by kind of run: mixed, many tellings, many facts, many loads, many things. */
    private static final int[][] WEIGHTS = {
        {2, 3, 1, 2, 1, 8, 8, 1, 1, 6, 3, 4, 3, 4, 6, 3, 4, 1},
        {1, 1, 1, 1, 1, 50, 2, 1, 1, 6, 3, 1, 1, 2, 2, 1, 2, 1},
        {1, 1, 1, 1, 1, 3, 40, 1, 1, 1, 1, 6, 1, 2, 3, 3, 1, 1},
        {3, 2, 1, 1, 1, 8, 8, 8, 5, 6, 2, 4, 1, 2, 3, 2, 1, 1},
        {2, 12, 3, 6, 3, 3, 5, 1, 1, 2, 6, 4, 6, 2, 4, 3, 6, 1}};

    private final Random random;
    private final int weights;
    private final int codes;
    private final int span;
    private final int wrongOneIn;
    private final ThenTables program = new ThenTables();
    private final Model model = new Model();

    private ModelTest(long seed) {
        random = new Random(seed);
        weights = random.nextInt(WEIGHTS.length);
        codes = weights == 4 ? 99 : 2 + random.nextInt(12);
        span = random.nextInt(4) == 0 ? 2000 : 5 + random.nextInt(80);
        wrongOneIn = 20 + random.nextInt(200);
    }

    public static void main(String[] args) {
        long[] refusals = new long[5];
        for (int run = 0; run < RUNS; run++) {
            new ModelTest(run).run(run, refusals);
        }
        for (int i = 1; i < refusals.length; i++) {
            Check.due("runs meet refusal -" + i, refusals[i] > 0, true);
        }
        Check.finish();
    }

    private void run(int run, long[] refusals) {
        for (int i = 0; i < CALLS; i++) {
            int which = pick();
            int[] a = arguments(which);
            String text = "run " + run + " call " + i + ": " + NAMES[which] + Arrays.toString(a);
            long got = answer(which, a);
            Check.due(text, got, model.call(which, a));
            if (which <= 8 && got < 0 && got >= -4) {
                refusals[(int) -got]++;
            }
        }
    }

    private int pick() {
        int total = Arrays.stream(WEIGHTS[weights]).sum();
        int at = random.nextInt(total);
        int which = 0;
        while (at >= WEIGHTS[weights][which]) {
            at -= WEIGHTS[weights][which];
            which++;
        }
        return which;
    }

    private int upTo(int high) {
        int one = random.nextInt(wrongOneIn);
        if (one == 0) {
            int[] odd = {-1, high + 1, Integer.MIN_VALUE, Integer.MAX_VALUE, -2, 100, 101, 2001};
            return odd[random.nextInt(odd.length)];
        }
        return random.nextInt(high + 1);
    }

    private int dayOf() {
        int one = random.nextInt(40);
        if (one < 2) {
            return one * 2000;
        }
        return upTo(one == 3 ? 2000 : span);
    }

    private int knownOf() {
        int today = counted(0);
        int one = random.nextInt(10);
        return one == 0 ? upTo(2000) : one < 4 ? today : one == 4 ? today - 1 : upTo(today);
    }

    private int thingOf() {
        return upTo(Math.max(0, counted(1) - (random.nextInt(30) == 0 ? 0 : 1)));
    }

    private int valueOf() {
        return random.nextInt(20) == 0 ? upTo(99) : upTo(4);
    }

    private int answerOf() {
        return random.nextInt(4) == 0 ? 100 : valueOf();
    }

    private int amountOf() {
        int one = random.nextInt(6);
        if (one == 0) {
            return random.nextInt(20009) - 10004;
        }
        return random.nextInt(one == 1 ? 20 : 2001) - (one == 1 ? 10 : 1000);
    }

    /** Asked of the model, so that the program gets no call beyond its 512. */
    private int counted(int what) {
        return (int) model.call(17, new int[] {what});
    }

    private int[] arguments(int which) {
        switch (which) {
            case 0:
                return new int[] {random.nextInt(4) == 0 ? dayOf() : counted(0) + upTo(3)};
            case 1:
                return new int[] {upTo(codes), dayOf()};
            case 2:
                return new int[] {thingOf(), dayOf()};
            case 3:
                int q = random.nextBoolean() ? 1 + upTo(99) : 1 + upTo(5);
                return new int[] {thingOf(), dayOf(), upTo(codes), upTo(codes),
                    upTo(Math.max(0, Math.min(q, 1000))), q};
            case 4:
                return new int[] {thingOf(), thingOf(), dayOf(), upTo(codes)};
            case 5:
                return new int[] {thingOf(), upTo(3), dayOf(), valueOf()};
            case 6:
                return new int[] {upTo(codes), dayOf(), amountOf()};
            case 7:
                return new int[0];
            case 8:
                return new int[] {upTo(counted(4))};
            case 9:
                return new int[] {thingOf(), upTo(3), dayOf(), knownOf()};
            case 10:
                return new int[] {thingOf(), knownOf(), upTo(5)};
            case 11:
                return new int[] {upTo(Math.max(0, counted(2))), knownOf()};
            case 12:
                return new int[] {upTo(codes), dayOf(), knownOf()};
            case 13:
                return new int[] {upTo(3), answerOf(), knownOf()};
            case 14:
                return new int[] {upTo(3), answerOf(), dayOf(), knownOf()};
            case 15:
                return new int[] {upTo(2), dayOf(), knownOf()};
            case 16:
                return new int[] {upTo(3), dayOf(), dayOf(), knownOf(), upTo(3)};
            default:
                return new int[] {upTo(5)};
        }
    }

    private long answer(int which, int[] a) {
        ThenTables x = program;
        switch (which) {
            case 0:
                return x.day(a[0]) ? 1 : 0;
            case 1:
                return x.born(a[0], a[1]);
            case 2:
                return x.ends(a[0], a[1]) ? 1 : 0;
            case 3:
                return x.split(a[0], a[1], a[2], a[3], a[4], a[5]);
            case 4:
                return x.join(a[0], a[1], a[2], a[3]);
            case 5:
                return x.mark(a[0], a[1], a[2], a[3]) ? 1 : 0;
            case 6:
                return x.fact(a[0], a[1], a[2]);
            case 7:
                return x.load();
            case 8:
                return x.undo(a[0]);
            case 9:
                return x.told(a[0], a[1], a[2], a[3]);
            case 10:
                return x.thing(a[0], a[1], a[2]);
            case 11:
                return x.hangs(a[0], a[1]);
            case 12:
                return x.find(a[0], a[1], a[2]);
            case 13:
                return x.then(a[0], a[1], a[2]);
            case 14:
                return x.by(a[0], a[1], a[2], a[3]);
            case 15:
                return x.sum(a[0], a[1], a[2]);
            case 16:
                return x.compare(a[0], a[1], a[2], a[3], a[4]);
            default:
                return x.count(a[0]);
        }
    }
}
