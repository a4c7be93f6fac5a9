/** Counts and prints the calls whose answer is not the one that is due. */
final class Check {
    private static int wrong = 0;

    private Check() {
    }

    static void due(String call, long got, long want) {
        if (got != want) {
            wrong++;
            System.out.println(call + " answered " + got + ", due is " + want);
        }
    }

    static void due(String call, boolean got, boolean want) {
        due(call, got ? 1 : 0, want ? 1 : 0);
    }

    static void due(String call, String got, String want) {
        if (!got.equals(want)) {
            wrong++;
            System.out.println(call + " gave " + got + ", due is " + want);
        }
    }

    /** What a caller can see of an object, in at most some 160 calls: so that a call can be shown to do nothing. */
    static String seen(ThenTables x) {
        StringBuilder text = new StringBuilder();
        for (int what = 0; what < 6; what++) {
            text.append(x.count(what)).append(' ');
        }
        int today = x.count(0);
        int things = Math.min(8, x.count(1));
        for (int thing = 0; thing < things; thing++) {
            for (int what = 0; what < 6; what++) {
                text.append(x.thing(thing, today, what)).append(' ');
            }
            for (int mark = 0; mark < 4; mark++) {
                text.append(x.told(thing, mark, 2000, today)).append(' ');
            }
        }
        int facts = Math.min(20, x.count(2));
        for (int fact = 0; fact < facts; fact++) {
            text.append(x.hangs(fact, today)).append(' ');
        }
        for (int day = 0; day < 120; day += 10) {
            for (int what = 0; what < 3; what++) {
                text.append(x.sum(what, day, today)).append(' ');
            }
            text.append(x.by(2, 100, day, today)).append(' ');
        }
        return text.toString();
    }

    static void finish() {
        System.out.println(wrong == 0 ? "all answers are as due" : wrong + " answers are not as due");
        if (wrong != 0) {
            System.exit(1);
        }
    }
}
