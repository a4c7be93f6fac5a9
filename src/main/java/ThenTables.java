/**
 * A store of things as they were called then: what is told is known from the day of the telling on, so that
 * every question can be asked as known on any day.
 */
public final class ThenTables {
    /** There is none. */
    public static final int NONE = -1;

    private static final int NOT_AS_TOLD = -2;
    private static final int CODE_TAKEN = -3;
    private static final int NO_ROOM = -4;
    private static final int NOT_KNOWN = -2;

    private static final int LAST_DAY = 2000;
    /** Behind every day: the end of what has none, and the day on which what never happened is known. */
    private static final int NEVER = LAST_DAY + 1;
    private static final int LAST_CODE = 99;
    private static final int LAST_MARK = 3;
    private static final int LAST_VALUE = 99;
    private static final int NOTHING_TOLD = 100;
    private static final int MOST_AMOUNT = 10000;
    private static final int MOST_PARTS = 100;

    private static final int MOST_THINGS = 40;
    private static final int MOST_TELLINGS = 300;
    private static final int MOST_FACTS = 200;
    private static final int MOST_LOADS = 40;

    private static final int OVER_MARK = 1;
    private static final int FIXED_MARK = 0;

    private static final int NOT_ENDED = 0;
    private static final int ENDED = 1;
    private static final int SPLIT = 2;
    private static final int JOINED = 3;

    private final Loads loads;
    private final Things things;
    private final Tellings tellings;
    private final Facts facts;
    private final Carrying carrying;
    private int today;

    public ThenTables() {
        loads = new Loads();
        things = new Things();
        tellings = new Tellings(loads);
        facts = new Facts(loads);
        carrying = new Carrying(things);
        today = 0;
    }

    public boolean day(int d) {
        if (d <= today || d > LAST_DAY) {
            return false;
        }
        today = d;
        return true;
    }

    public int born(int code, int day) {
        if (!isCode(code) || !isDay(day)) {
            return NOT_AS_TOLD;
        }
        if (things.isTaken(code, day, NONE, NONE)) {
            return CODE_TAKEN;
        }
        if (things.room() < 1) {
            return NO_ROOM;
        }
        return things.add(code, day, today);
    }

    public boolean ends(int thing, int day) {
        if (!canEnd(thing, day)) {
            return false;
        }
        things.finish(thing, day, today, ENDED, NONE);
        return true;
    }

    public int split(int thing, int day, int one, int two, int p, int q) {
        if (!canEnd(thing, day) || !isCode(one) || !isCode(two) || one == two || !isShare(p, q)) {
            return NOT_AS_TOLD;
        }
        if (things.isTaken(one, day, thing, NONE) || things.isTaken(two, day, thing, NONE)) {
            return CODE_TAKEN;
        }
        if (things.room() < 2) {
            return NO_ROOM;
        }
        int first = things.add(one, day, today);
        things.add(two, day, today);
        things.finish(thing, day, today, SPLIT, first);
        things.setShare(thing, p, q);
        return first;
    }

    public int join(int a, int b, int day, int code) {
        if (a == b || !canEnd(a, day) || !canEnd(b, day) || !isCode(code)) {
            return NOT_AS_TOLD;
        }
        if (things.isTaken(code, day, a, b)) {
            return CODE_TAKEN;
        }
        if (things.room() < 1) {
            return NO_ROOM;
        }
        int heir = things.add(code, day, today);
        things.finish(a, day, today, JOINED, heir);
        things.finish(b, day, today, JOINED, heir);
        return heir;
    }

    public boolean mark(int thing, int mark, int from, int value) {
        if (!things.has(thing) || !isMark(mark) || !isDay(from) || value < 0 || value > LAST_VALUE) {
            return false;
        }
        if (tellings.isFull() || (mark == FIXED_MARK && isFixed(thing))) {
            return false;
        }
        tellings.add(thing, mark, from, value, today);
        return true;
    }

    public int fact(int code, int day, int amount) {
        if (!isCode(code) || !isDay(day) || amount < -MOST_AMOUNT || amount > MOST_AMOUNT || facts.isFull()) {
            return NONE;
        }
        return facts.add(code, day, amount, today);
    }

    public int load() {
        return loads.openNext();
    }

    public int undo(int load) {
        if (!loads.canBeUndone(load)) {
            return NONE;
        }
        loads.setUndone(load, today);
        return tellings.sizeOfLoad(load) + facts.sizeOfLoad(load);
    }

    public int told(int thing, int mark, int day, int known) {
        if (!isMark(mark) || !isDay(day) || !isDay(known) || !things.isKnown(thing, known)) {
            return NONE;
        }
        return tellings.valueOn(thing, mark, day, known);
    }

    public int thing(int thing, int known, int what) {
        if (!isDay(known) || !things.isKnown(thing, known)) {
            return NONE;
        }
        switch (what) {
            case 0:
                return things.codeOf(thing);
            case 1:
                return things.birthOf(thing);
            case 2:
                return things.endOf(thing, known);
            case 3:
                return things.endingOf(thing, known);
            case 4:
                return things.heirOf(thing, known);
            case 5:
                return tellings.timesToldOver(thing, known);
            default:
                return NONE;
        }
    }

    public int hangs(int fact, int known) {
        if (!isDay(known) || !facts.isKnown(fact, known)) {
            return NOT_KNOWN;
        }
        return thingOfFact(fact, known);
    }

    public int find(int code, int day, int known) {
        if (!isCode(code) || !isDay(day) || !isDay(known)) {
            return NONE;
        }
        return things.livingOn(code, day, known);
    }

    public long then(int mark, int value, int known) {
        if (!isMark(mark) || !isAnswer(value) || !isDay(known)) {
            return 0;
        }
        long total = 0;
        for (int i = 0; i < facts.size(); i++) {
            if (facts.isKnown(i, known) && isMarkedThen(i, mark, value, known)) {
                total += facts.amountOf(i);
            }
        }
        return total;
    }

    public long by(int mark, int value, int day, int known) {
        if (!isMark(mark) || !isAnswer(value) || !isDay(day) || !isDay(known)) {
            return 0;
        }
        carryAll(day, known);
        long total = 0;
        for (int i = 0; i < things.size(); i++) {
            if (tellings.valueOn(i, mark, day, known) == value) {
                total += carrying.stayingOn(i);
            }
        }
        return total;
    }

    public long sum(int what, int day, int known) {
        if (!isDay(day) || !isDay(known)) {
            return 0;
        }
        switch (what) {
            case 0:
                return sumOfFacts(known, false);
            case 1:
                return sumOfFacts(known, true);
            case 2:
                carryAll(day, known);
                return carrying.nowhere();
            default:
                return 0;
        }
    }

    public int compare(int mark, int d, int e, int known, int what) {
        if (!isMark(mark) || !isDay(d) || !isDay(e) || !isDay(known)) {
            return NONE;
        }
        switch (what) {
            case 0:
                return countLiving(d, true, e, true, known);
            case 1:
                return countLiving(d, false, e, true, known);
            case 2:
                return countLiving(d, true, e, false, known);
            case 3:
                return countMoved(mark, d, e, known);
            default:
                return NONE;
        }
    }

    public int count(int what) {
        switch (what) {
            case 0:
                return today;
            case 1:
                return things.size();
            case 2:
                return facts.size();
            case 3:
                return tellings.size();
            case 4:
                return loads.open();
            case 5:
                return loads.undoneCount();
            default:
                return NONE;
        }
    }

    private static boolean isDay(int day) {
        return day >= 0 && day <= LAST_DAY;
    }

    private static boolean isCode(int code) {
        return code >= 0 && code <= LAST_CODE;
    }

    private static boolean isMark(int mark) {
        return mark >= 0 && mark <= LAST_MARK;
    }

    /** What told() may answer, and so what totals may be asked for: a value, or that nothing is told. */
    private static boolean isAnswer(int value) {
        return value >= 0 && value <= NOTHING_TOLD;
    }

    private static boolean isShare(int p, int q) {
        return q >= 1 && q <= MOST_PARTS && p >= 0 && p <= q;
    }

    private boolean canEnd(int thing, int day) {
        return isDay(day) && things.has(thing) && !things.hasEnd(thing) && day > things.birthOf(thing);
    }

    private boolean isFixed(int thing) {
        return tellings.valueOn(thing, FIXED_MARK, today, today) != NOTHING_TOLD;
    }

    private int thingOfFact(int fact, int known) {
        return things.livingOn(facts.codeOf(fact), facts.dayOf(fact), known);
    }

    private boolean isMarkedThen(int fact, int mark, int value, int known) {
        int thing = thingOfFact(fact, known);
        return thing != NONE && tellings.valueOn(thing, mark, facts.dayOf(fact), known) == value;
    }

    private void carryAll(int day, int known) {
        carrying.start(day, known);
        for (int i = 0; i < facts.size(); i++) {
            if (facts.isKnown(i, known)) {
                carrying.add(thingOfFact(i, known), facts.amountOf(i));
            }
        }
    }

    private long sumOfFacts(int known, boolean waitingOnly) {
        long total = 0;
        for (int i = 0; i < facts.size(); i++) {
            if (facts.isKnown(i, known) && (!waitingOnly || thingOfFact(i, known) == NONE)) {
                total += facts.amountOf(i);
            }
        }
        return total;
    }

    private int countLiving(int d, boolean onD, int e, boolean onE, int known) {
        int n = 0;
        for (int i = 0; i < things.size(); i++) {
            if (things.livesOn(i, d, known) == onD && things.livesOn(i, e, known) == onE) {
                n++;
            }
        }
        return n;
    }

    private int countMoved(int mark, int d, int e, int known) {
        int n = 0;
        for (int i = 0; i < things.size(); i++) {
            if (things.livesOn(i, d, known) && things.livesOn(i, e, known)
                    && tellings.valueOn(i, mark, d, known) != tellings.valueOn(i, mark, e, known)) {
                n++;
            }
        }
        return n;
    }

    /** The loads, the last of which is open. */
    private static final class Loads {
        private final int[] undoneOn;
        private int size;
        private int undone;

        Loads() {
            undoneOn = new int[MOST_LOADS];
            undoneOn[0] = NEVER;
            size = 1;
            undone = 0;
        }

        int open() {
            return size - 1;
        }

        int openNext() {
            if (size >= MOST_LOADS) {
                return NONE;
            }
            undoneOn[size] = NEVER;
            size++;
            return open();
        }

        boolean canBeUndone(int load) {
            return load >= 0 && load < open() && undoneOn[load] == NEVER;
        }

        void setUndone(int load, int today) {
            undoneOn[load] = today;
            undone++;
        }

        boolean isUndone(int load, int known) {
            return undoneOn[load] <= known;
        }

        int undoneCount() {
            return undone;
        }
    }

    /** When and in which load each row of a table was told; rows stay when their load is undone. */
    private static final class Log {
        private final Loads loads;
        private final int[] toldOn;
        private final int[] loadOf;
        private final int most;
        private int size;

        Log(Loads loads, int most) {
            this.loads = loads;
            this.most = Math.max(0, most);
            toldOn = new int[this.most];
            loadOf = new int[this.most];
            size = 0;
        }

        int size() {
            return size;
        }

        boolean isFull() {
            return size >= most;
        }

        int add(int today) {
            if (isFull()) {
                return NONE;
            }
            toldOn[size] = today;
            loadOf[size] = loads.open();
            size++;
            return size - 1;
        }

        boolean isKnown(int row, int known) {
            return row >= 0 && row < size && toldOn[row] <= known && !loads.isUndone(loadOf[row], known);
        }

        int sizeOfLoad(int load) {
            int n = 0;
            for (int i = 0; i < size; i++) {
                if (loadOf[i] == load) {
                    n++;
                }
            }
            return n;
        }
    }

    /** What was told of marks, in the order of the telling. */
    private static final class Tellings {
        private final Log log;
        private final int[] thingOf;
        private final int[] markOf;
        private final int[] fromOf;
        private final int[] valueOf;

        Tellings(Loads loads) {
            log = new Log(loads, MOST_TELLINGS);
            thingOf = new int[MOST_TELLINGS];
            markOf = new int[MOST_TELLINGS];
            fromOf = new int[MOST_TELLINGS];
            valueOf = new int[MOST_TELLINGS];
        }

        int size() {
            return log.size();
        }

        boolean isFull() {
            return log.isFull();
        }

        int sizeOfLoad(int load) {
            return log.sizeOfLoad(load);
        }

        void add(int thing, int mark, int from, int value, int today) {
            int row = log.add(today);
            if (row == NONE) {
                return;
            }
            thingOf[row] = thing;
            markOf[row] = mark;
            fromOf[row] = from;
            valueOf[row] = value;
        }

        int valueOn(int thing, int mark, int day, int known) {
            int best = NONE;
            for (int i = 0; i < log.size(); i++) {
                if (isOf(i, thing, mark) && log.isKnown(i, known) && outdoes(i, best, day)) {
                    best = i;
                }
            }
            return best == NONE ? NOTHING_TOLD : valueOf[best];
        }

        int timesToldOver(int thing, int known) {
            int n = 0;
            int ahead = NOTHING_TOLD;
            for (int i = 0; i < log.size(); i++) {
                if (isOf(i, thing, OVER_MARK) && log.isKnown(i, known)) {
                    if (ahead != NOTHING_TOLD && ahead != valueOf[i]) {
                        n++;
                    }
                    ahead = valueOf[i];
                }
            }
            return n;
        }

        private boolean isOf(int row, int thing, int mark) {
            return thingOf[row] == thing && markOf[row] == mark;
        }

        /** FIXED needs no case of its own: of its tellings never two are known on one day. */
        private boolean outdoes(int row, int best, int day) {
            if (markOf[row] <= OVER_MARK) {
                return true;
            }
            return fromOf[row] <= day && (best == NONE || fromOf[row] >= fromOf[best]);
        }
    }

    /** The facts; on which thing one hangs is asked anew each time, as news may come late. */
    private static final class Facts {
        private final Log log;
        private final int[] codes;
        private final int[] days;
        private final int[] amounts;

        Facts(Loads loads) {
            log = new Log(loads, MOST_FACTS);
            codes = new int[MOST_FACTS];
            days = new int[MOST_FACTS];
            amounts = new int[MOST_FACTS];
        }

        int size() {
            return log.size();
        }

        boolean isFull() {
            return log.isFull();
        }

        int sizeOfLoad(int load) {
            return log.sizeOfLoad(load);
        }

        boolean isKnown(int row, int known) {
            return log.isKnown(row, known);
        }

        int add(int code, int day, int amount, int today) {
            int row = log.add(today);
            if (row == NONE) {
                return NONE;
            }
            codes[row] = code;
            days[row] = day;
            amounts[row] = amount;
            return row;
        }

        int codeOf(int row) {
            return codes[row];
        }

        int dayOf(int row) {
            return days[row];
        }

        int amountOf(int row) {
            return amounts[row];
        }
    }

    /** The things, each with the days since which its birth and its end are known. */
    private static final class Things {
        private final int[] codes;
        private final int[] births;
        private final int[] bornKnownFrom;
        private final int[] endDays;
        private final int[] endKnownFrom;
        private final int[] endings;
        private final int[] heirs;
        private final int[] shareParts;
        private final int[] shareWholes;
        private int size;

        Things() {
            codes = new int[MOST_THINGS];
            births = new int[MOST_THINGS];
            bornKnownFrom = new int[MOST_THINGS];
            endDays = new int[MOST_THINGS];
            endKnownFrom = new int[MOST_THINGS];
            endings = new int[MOST_THINGS];
            heirs = new int[MOST_THINGS];
            shareParts = new int[MOST_THINGS];
            shareWholes = new int[MOST_THINGS];
            size = 0;
        }

        int size() {
            return size;
        }

        int room() {
            return MOST_THINGS - size;
        }

        boolean has(int thing) {
            return thing >= 0 && thing < size;
        }

        int add(int code, int birth, int today) {
            if (room() < 1) {
                return NONE;
            }
            codes[size] = code;
            births[size] = birth;
            bornKnownFrom[size] = today;
            endDays[size] = NEVER;
            endKnownFrom[size] = NEVER;
            endings[size] = NOT_ENDED;
            heirs[size] = NONE;
            shareParts[size] = 0;
            shareWholes[size] = 1;
            size++;
            return size - 1;
        }

        void finish(int thing, int day, int today, int ending, int heir) {
            endDays[thing] = day;
            endKnownFrom[thing] = today;
            endings[thing] = ending;
            heirs[thing] = heir;
        }

        void setShare(int thing, int p, int q) {
            shareParts[thing] = p;
            shareWholes[thing] = q;
        }

        /** Whether one born with this code on this day would ever live beside another; two may end first. */
        boolean isTaken(int code, int day, int endsFirst, int endsToo) {
            for (int i = 0; i < size; i++) {
                if (i != endsFirst && i != endsToo && codes[i] == code && endDays[i] > day) {
                    return true;
                }
            }
            return false;
        }

        boolean hasEnd(int thing) {
            return endDays[thing] != NEVER;
        }

        boolean isKnown(int thing, int known) {
            return has(thing) && bornKnownFrom[thing] <= known;
        }

        int codeOf(int thing) {
            return codes[thing];
        }

        int birthOf(int thing) {
            return births[thing];
        }

        int endOf(int thing, int known) {
            return isEndKnown(thing, known) ? endDays[thing] : NEVER;
        }

        int endingOf(int thing, int known) {
            return isEndKnown(thing, known) ? endings[thing] : NOT_ENDED;
        }

        int heirOf(int thing, int known) {
            return isEndKnown(thing, known) ? heirs[thing] : NONE;
        }

        boolean livesOn(int thing, int day, int known) {
            return isKnown(thing, known) && births[thing] <= day && day < endOf(thing, known);
        }

        int livingOn(int code, int day, int known) {
            for (int i = 0; i < size; i++) {
                if (codes[i] == code && livesOn(i, day, known)) {
                    return i;
                }
            }
            return NONE;
        }

        int firstShareOf(int thing, int amount) {
            int whole = shareWholes[thing];
            return whole < 1 ? 0 : amount * shareParts[thing] / whole;
        }

        private boolean isEndKnown(int thing, int known) {
            return endKnownFrom[thing] <= known;
        }
    }

    /** Amounts on their way from the things on which they hang to those of a day. */
    private static final class Carrying {
        private final Things things;
        private final long[] staying;
        private long lost;
        private int onDay;
        private int asKnown;

        Carrying(Things things) {
            this.things = things;
            staying = new long[MOST_THINGS];
            lost = 0;
            onDay = 0;
            asKnown = 0;
        }

        void start(int day, int known) {
            onDay = day;
            asKnown = known;
            lost = 0;
            for (int i = 0; i < MOST_THINGS; i++) {
                staying[i] = 0;
            }
        }

        void add(int thing, int amount) {
            carry(this, thing, amount, 0);
        }

        long stayingOn(int thing) {
            return staying[thing];
        }

        long nowhere() {
            return lost;
        }

        /**
         * Parts of one amount that meet again in a join stay apart, since each is cut by itself at the next split.
         * An heir's number is above that of what it comes from, so the depth stays under the number of things.
         */
        private static void carry(Carrying to, int thing, int amount, int depth) {
            Things things = to.things;
            if (amount == 0 || depth >= MOST_THINGS || !things.has(thing)) {
                return;
            }
            if (things.livesOn(thing, to.onDay, to.asKnown)) {
                to.staying[thing] += amount;
                return;
            }
            int ending = to.onDay < things.birthOf(thing) ? ENDED : things.endingOf(thing, to.asKnown);
            int heir = things.heirOf(thing, to.asKnown);
            if (ending == SPLIT) {
                int first = things.firstShareOf(thing, amount);
                carry(to, heir, first, depth + 1);
                carry(to, heir + 1, amount - first, depth + 1);
            } else if (ending == JOINED) {
                carry(to, heir, amount, depth + 1);
            } else {
                to.lost += amount;
            }
        }
    }
}
