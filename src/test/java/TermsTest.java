/** The sentences of the section "Terms" that no promise says again: shares, cuts, and what is carried how far. */
public final class TermsTest {
    public static void main(String[] args) {
        cutTowardsZero();
        cutTowardsZeroBelowZero();
        noneAndAllOfIt();
        theLeastAndTheGreatestWhole();
        leavesNoRest();
        eachAmountByItself();
        splitAgain();
        splitAndJoined();
        partsThatMeetAgain();
        joinedAgain();
        theLongestWay();
        heirsThatEnd();
        carriedAsKnown();
        carriedFromTheLastThings();
        factsOnHeirs();
        loadsOfTellings();
        Check.finish();
    }

    /** An amount on a thing that is split on day 20: what is on its first part and on its second one. */
    private static void dueParts(int amount, int p, int q, int first, int second) {
        new Run("p of q of it (cut towards 0), the second one the rest: " + p + " of " + q + " of " + amount,
                "born(5, 10)", "fact(5, 15, " + amount + ")", "split(0, 20, 6, 7, " + p + ", " + q + ")",
                "mark(1, 2, 20, 1)", "mark(2, 2, 20, 2)").due("by(2, 1, 20, 0)", first).due("by(2, 2, 20, 0)", second)
                .due("by(2, 1, 2000, 0)", first).due("by(2, 2, 2000, 0)", second).due("by(2, 100, 19, 0)", amount)
                .due("by(2, 100, 20, 0)", 0).due("sum(2, 20, 0)", 0).due("sum(0, 20, 0)", amount);
    }

    private static void cutTowardsZero() {
        dueParts(1, 1, 2, 0, 1);
        dueParts(2, 1, 2, 1, 1);
        dueParts(3, 1, 2, 1, 2);
        dueParts(4, 1, 2, 2, 2);
        dueParts(2, 1, 3, 0, 2);
        dueParts(3, 1, 3, 1, 2);
        dueParts(4, 1, 3, 1, 3);
        dueParts(5, 2, 3, 3, 2);
        dueParts(99, 1, 100, 0, 99);
        dueParts(100, 1, 100, 1, 99);
        dueParts(101, 1, 100, 1, 100);
        dueParts(1, 99, 100, 0, 1);
        dueParts(0, 1, 2, 0, 0);
    }

    private static void cutTowardsZeroBelowZero() {
        dueParts(-1, 1, 2, 0, -1);
        dueParts(-2, 1, 2, -1, -1);
        dueParts(-3, 1, 2, -1, -2);
        dueParts(-4, 1, 2, -2, -2);
        dueParts(-2, 1, 3, 0, -2);
        dueParts(-3, 1, 3, -1, -2);
        dueParts(-4, 1, 3, -1, -3);
        dueParts(-5, 2, 3, -3, -2);
        dueParts(-99, 1, 100, 0, -99);
        dueParts(-100, 1, 100, -1, -99);
        dueParts(-101, 1, 100, -1, -100);
        dueParts(-1, 99, 100, 0, -1);
    }

    private static void noneAndAllOfIt() {
        dueParts(77, 0, 1, 0, 77);
        dueParts(77, 1, 1, 77, 0);
        dueParts(77, 0, 100, 0, 77);
        dueParts(77, 100, 100, 77, 0);
        dueParts(-77, 0, 7, 0, -77);
        dueParts(-77, 7, 7, -77, 0);
        dueParts(77, 6, 7, 66, 11);
        dueParts(77, 1, 7, 11, 66);
    }

    private static void theLeastAndTheGreatestWhole() {
        dueParts(10000, 1, 100, 100, 9900);
        dueParts(10000, 99, 100, 9900, 100);
        dueParts(10000, 100, 100, 10000, 0);
        dueParts(-10000, 100, 100, -10000, 0);
        dueParts(-10000, 99, 100, -9900, -100);
        dueParts(9999, 98, 99, 9898, 101);
        dueParts(-9999, 98, 99, -9898, -101);
        dueParts(10000, 1, 1, 10000, 0);
        dueParts(-10000, 0, 1, 0, -10000);
    }

    /** Shares of every kind on a few amounts: the first part never leaves more than its own cut. */
    private static void leavesNoRest() {
        int[] amounts = {7, -7, 1234, -1234};
        int[] wholes = {1, 2, 3, 7, 50, 99, 100};
        for (int amount : amounts) {
            for (int q : wholes) {
                for (int p = 0; p <= q; p += Math.max(1, q / 6)) {
                    int cut = Math.abs(amount) * p / q;
                    int first = amount < 0 ? -cut : cut;
                    dueParts(amount, p, q, first, amount - first);
                }
            }
        }
    }

    private static void eachAmountByItself() {
        new Run("an amount that hangs on a THING: each is cut by itself", "born(5, 10)", "fact(5, 15, 3)",
                "fact(5, 15, 3)", "fact(5, 16, -3)", "fact(5, 16, 1)", "split(0, 20, 6, 7, 1, 2)", "mark(1, 2, 20, 1)",
                "mark(2, 2, 20, 2)").due("by(2, 1, 20, 0)", 1).due("by(2, 2, 20, 0)", 3).due("by(2, 100, 19, 0)", 4);
    }

    private static void splitAgain() {
        new Run("carried on: a part that is SPLIT", "born(5, 10)", "fact(5, 15, 100)", "split(0, 20, 6, 7, 1, 3)",
                "split(1, 30, 8, 9, 1, 2)", "split(2, 40, 10, 11, 1, 2)").tellEach(1, 7, i -> "mark(" + i + ", 1, 0, "
                + i + ")").due("by(1, 1, 20, 0)", 33).due("by(1, 2, 20, 0)", 67).due("by(1, 1, 29, 0)", 33)
                .due("by(1, 1, 30, 0)", 0).due("by(1, 3, 29, 0)", 0).due("by(1, 3, 30, 0)", 16)
                .due("by(1, 4, 30, 0)", 17).due("by(1, 2, 39, 0)", 67).due("by(1, 2, 40, 0)", 0)
                .due("by(1, 5, 40, 0)", 33).due("by(1, 6, 40, 0)", 34).due("by(1, 3, 2000, 0)", 16);
    }

    private static void splitAndJoined() {
        new Run("carried on: a part that is JOINED with another", "born(5, 10)", "born(6, 10)", "fact(5, 15, 7)",
                "fact(6, 15, 100)", "split(0, 20, 7, 8, 1, 2)", "join(3, 1, 30, 9)").tellEach(0, 5, i -> "mark(" + i
                + ", 1, 0, " + i + ")").due("by(1, 3, 29, 0)", 4).due("by(1, 1, 29, 0)", 100).due("by(1, 4, 29, 0)", 0)
                .due("by(1, 4, 30, 0)", 104).due("by(1, 3, 30, 0)", 0).due("by(1, 1, 30, 0)", 0)
                .due("by(1, 2, 30, 0)", 3);
    }

    private static void partsThatMeetAgain() {
        new Run("parts that are JOINED and SPLIT again are carried on each by itself", "born(5, 10)", "fact(5, 15, 6)",
                "split(0, 20, 6, 7, 1, 2)", "join(1, 2, 30, 8)", "split(3, 40, 9, 10, 1, 2)")
                .tellEach(0, 6, i -> "mark(" + i + ", 1, 0, " + i + ")").due("by(1, 3, 30, 0)", 6)
                .due("by(1, 4, 40, 0)", 2).due("by(1, 5, 40, 0)", 4);
    }

    private static void joinedAgain() {
        new Run("all of it from the new one, again and again", "born(5, 10)", "born(6, 10)", "born(7, 10)",
                "fact(5, 15, 1)", "fact(6, 15, 20)", "fact(7, 15, 300)", "join(0, 1, 20, 8)", "join(3, 2, 21, 9)")
                .tellEach(0, 5, i -> "mark(" + i + ", 1, 0, " + i + ")").due("by(1, 3, 20, 0)", 21)
                .due("by(1, 2, 20, 0)", 300).due("by(1, 4, 20, 0)", 0).due("by(1, 4, 21, 0)", 321)
                .due("by(1, 3, 21, 0)", 0);
        new Run("JOINED on the last DAY", "born(5, 10)", "born(6, 10)", "fact(5, 15, 1)", "fact(6, 15, 20)",
                "join(0, 1, 2000, 8)", "mark(2, 1, 0, 5)").due("by(1, 5, 1999, 0)", 0).due("by(1, 5, 2000, 0)", 21);
    }

    /** SPLIT and JOINED in turn, 26 times as far as 40 THINGS go: no longer way is there. */
    private static void theLongestWay() {
        Run run = new Run("CARRIED on as far as 40 THINGS go", "born(5, 0)", "fact(5, 0, 10000)", "fact(5, 0, -9999)");
        for (int i = 0; i < 13; i++) {
            int whole = 3 * i;
            run.tell("split(" + whole + ", " + (10 + 2 * i) + ", 6, 7, 1, 2)",
                    "join(" + (whole + 1) + ", " + (whole + 2) + ", " + (11 + 2 * i) + ", 5)",
                    "mark(" + (whole + 3) + ", 1, 0, " + i + ")");
        }
        for (int i = 0; i < 13; i++) {
            run.due("by(1, " + i + ", " + (11 + 2 * i) + ", 0)", 1)
                    .due("by(1, 100, " + (10 + 2 * i) + ", 0)", 1);
        }
        run.due("count(1)", 40).due("by(1, 12, 2000, 0)", 1).due("sum(2, 2000, 0)", 0);
    }

    private static void heirsThatEnd() {
        new Run("it was SPLIT by D, and a part ENDED by D", "born(5, 10)", "fact(5, 15, 5)", "split(0, 20, 6, 7, 1, 2)",
                "ends(2, 21)").due("by(2, 100, 20, 0)", 5).due("sum(2, 20, 0)", 0).due("by(2, 100, 21, 0)", 2)
                .due("sum(2, 21, 0)", 3);
    }

    private static void carriedAsKnown() {
        new Run("CARRIED to a DAY D, as KNOWN on k", "born(5, 10)", "fact(5, 15, 8)", "day(2)",
                "split(0, 20, 6, 7, 1, 2)", "day(4)", "split(1, 21, 8, 9, 1, 2)", "day(6)",
                "ends(3, 22)").tellEach(0, 5, i -> "mark(" + i + ", 1, 0, " + i + ")").due("by(1, 0, 30, 1)", 0)
                .due("by(1, 100, 30, 1)", 8).due("by(1, 100, 30, 2)", 8).due("by(1, 100, 30, 4)", 8)
                .due("sum(2, 30, 5)", 0).due("sum(2, 30, 6)", 2).due("by(1, 3, 21, 6)", 2).due("by(1, 4, 30, 6)", 2)
                .due("by(1, 2, 30, 6)", 4).due("by(1, 0, 19, 6)", 8).due("by(1, 1, 20, 6)", 4);
        new Run("CARRIED as KNOWN: MARKS tell where", "born(5, 10)", "fact(5, 15, 8)", "mark(0, 1, 0, 1)", "day(2)",
                "split(0, 20, 6, 7, 1, 4)", "mark(1, 1, 0, 2)", "mark(2, 1, 0, 3)", "day(4)", "join(1, 2, 30, 8)",
                "mark(3, 1, 0, 4)").due("by(1, 1, 30, 1)", 8).due("by(1, 2, 30, 1)", 0).due("by(1, 2, 30, 2)", 2)
                .due("by(1, 3, 30, 2)", 6).due("by(1, 2, 30, 3)", 2).due("by(1, 4, 30, 3)", 0)
                .due("by(1, 4, 30, 4)", 8).due("by(1, 2, 29, 4)", 2).due("by(1, 1, 19, 4)", 8);
    }

    private static void carriedFromTheLastThings() {
        new Run("a SPLIT whose parts are the THINGS 38 and 39", "born(99, 0)", "fact(99, 5, 7)")
                .tellEach(1, 38, i -> "born(" + i + ", 0)").tell("split(0, 10, 50, 51, 1, 2)", "mark(38, 1, 0, 1)",
                "mark(39, 1, 0, 2)").due("by(1, 1, 10, 0)", 3).due("by(1, 2, 10, 0)", 4).due("by(1, 100, 9, 0)", 7)
                .due("by(1, 100, 10, 0)", 0);
    }

    private static void factsOnHeirs() {
        new Run("a FACT hangs on the part, not on the whole", "born(5, 10)", "split(0, 20, 5, 6, 1, 2)",
                "fact(5, 19, 8)", "fact(5, 20, 100)").tellEach(0, 3, i -> "mark(" + i + ", 1, 0, " + i + ")")
                .due("by(1, 1, 20, 0)", 104).due("by(1, 2, 20, 0)", 4).due("by(1, 0, 19, 0)", 8)
                .due("sum(2, 19, 0)", 100);
    }

    private static void loadsOfTellings() {
        new Run("what is told belongs to the LOAD that is open, on one DAY", "born(5, 10)", "mark(0, 2, 10, 1)",
                "load()", "mark(0, 2, 10, 2)", "load()", "mark(0, 2, 10, 3)", "load()").due("told(0, 2, 10, 0)", 3)
                .due("undo(2)", 1).due("told(0, 2, 10, 0)", 2).due("undo(0)", 1).due("told(0, 2, 10, 0)", 2)
                .due("undo(1)", 1).due("told(0, 2, 10, 0)", 100);
    }
}
