/**
 * "What it is": each phrase of "A store of things as they were called then .." as a run of its own, and "An object is
 * used for at most 512 calls after it has been made".
 */
public final class WhatItIsTest {
    public static void main(String[] args) {
        marksThatChangeAndAreKnownSince();
        factsHungOnThingAndMark();
        totalsByThenOrByAnotherDay();
        sharesThatLeaveNoRest();
        lateNews();
        loadsUndone();
        factsThatWait();
        yearsCompared();
        theLastCallOfFullTables();
        theLastCallThatTells();
        askingChangesNothing();
        sameCallsSameAnswers();
        Check.finish();
    }

    private static void marksThatChangeAndAreKnownSince() {
        new Run("marks that change by days and are known since days", "born(5, 100)", "mark(0, 2, 100, 1)", "day(300)",
                "mark(0, 2, 200, 2)").due("told(0, 2, 199, 300)", 1).due("told(0, 2, 200, 300)", 2)
                .due("told(0, 2, 200, 299)", 1).due("told(0, 2, 99, 300)", 100);
    }

    private static void factsHungOnThingAndMark() {
        new Run("facts hung on the thing and mark of their day", "born(5, 100)", "mark(0, 2, 100, 1)", "ends(0, 200)",
                "born(5, 200)", "mark(1, 2, 200, 2)", "mark(1, 2, 300, 3)", "fact(5, 199, 1)", "fact(5, 200, 20)",
                "fact(5, 300, 300)").due("hangs(0, 0)", 0).due("hangs(1, 0)", 1).due("hangs(2, 0)", 1)
                .due("then(2, 1, 0)", 1).due("then(2, 2, 0)", 20).due("then(2, 3, 0)", 300);
    }

    private static void totalsByThenOrByAnotherDay() {
        new Run("totals by then's marks or by those of another day", "born(5, 100)", "mark(0, 3, 100, 1)",
                "mark(0, 3, 200, 2)", "fact(5, 150, 7)", "fact(5, 250, 40)").due("then(3, 1, 0)", 7)
                .due("then(3, 2, 0)", 40).due("by(3, 1, 150, 0)", 47).due("by(3, 2, 150, 0)", 0)
                .due("by(3, 2, 250, 0)", 47);
    }

    private static void sharesThatLeaveNoRest() {
        Run run = new Run("splits and joins with shares that leave no rest", "born(5, 0)", "fact(5, 5, 101)",
                "fact(5, 6, -50)", "split(0, 10, 6, 7, 1, 3)", "split(2, 20, 8, 9, 2, 7)", "join(1, 3, 30, 10)",
                "split(5, 40, 11, 12, 3, 4)");
        for (int day = 0; day <= 50; day += 5) {
            run.due("by(2, 100, " + day + ", 0)", 51).due("sum(2, " + day + ", 0)", 0);
        }
    }

    private static void lateNews() {
        new Run("late news", "born(5, 100)", "fact(5, 250, 9)", "day(300)", "split(0, 200, 5, 6, 1, 3)")
                .due("hangs(0, 299)", 0).due("hangs(0, 300)", 1).due("by(2, 100, 260, 299)", 9)
                .due("by(2, 100, 260, 300)", 9).due("thing(0, 299, 2)", 2001).due("thing(0, 300, 2)", 200);
    }

    private static void loadsUndone() {
        new Run("loads undone", "born(5, 100)", "load()", "mark(0, 2, 100, 1)", "fact(5, 150, 9)", "load()", "day(20)")
                .due("undo(1)", 2).due("told(0, 2, 150, 19)", 1).due("told(0, 2, 150, 20)", 100)
                .due("sum(0, 0, 19)", 9).due("sum(0, 0, 20)", 0);
    }

    private static void factsThatWait() {
        new Run("facts that wait for their thing", "fact(5, 150, 9)", "day(20)", "born(5, 150)").due("hangs(0, 19)", -1)
                .due("sum(1, 0, 19)", 9).due("hangs(0, 20)", 0).due("sum(1, 0, 20)", 0);
    }

    private static void yearsCompared() {
        new Run("years compared", "born(5, 100)", "born(6, 100)", "born(7, 400)", "ends(1, 400)", "mark(0, 2, 400, 3)")
                .due("compare(2, 365, 730, 0, 0)", 1).due("compare(2, 365, 730, 0, 1)", 1)
                .due("compare(2, 365, 730, 0, 2)", 1).due("compare(2, 365, 730, 0, 3)", 1);
    }

    /** 1 + 200 + 300 + 11 calls. */
    private static void theLastCallOfFullTables() {
        new Run("at most 512 calls: full tables", "born(5, 0)").tellEach(0, 200, i -> "fact(5, " + i + ", 1)")
                .tellEach(0, 300, i -> "mark(0, 2, " + i + ", " + i % 100 + ")").due("fact(5, 0, 1)", -1)
                .due("mark(0, 2, 0, 1)", false).due("hangs(199, 0)", 0).due("hangs(200, 0)", -2)
                .due("told(0, 2, 299, 0)", 99).due("told(0, 2, 150, 0)", 50).due("then(2, 7, 0)", 2)
                .due("by(2, 7, 107, 0)", 200).due("sum(0, 0, 0)", 200).due("count(3)", 300).due("count(2)", 200);
    }

    /** 500 calls that ask, then twelve of which the last ones tell and show it. */
    private static void theLastCallThatTells() {
        Run run = new Run("at most 512 calls: the last ones tell");
        for (int i = 0; i < 500; i++) {
            run.due("count(1)", 0);
        }
        run.due("born(5, 0)", 0).due("mark(0, 0, 0, 4)", true).due("fact(5, 3, 8)", 0).due("load()", 1)
                .due("day(2000)", true).due("undo(0)", 2).due("split(0, 9, 6, 7, 1, 2)", 1).due("join(1, 2, 10, 8)", 3)
                .due("ends(3, 11)", true).due("then(0, 4, 1999)", 8).due("sum(2, 11, 2000)", 0)
                .due("thing(3, 2000, 2)", 11);
    }

    /** Each asking call is made on one of two objects alone, with arguments as told and others. */
    private static void askingChangesNothing() {
        String[] told = {"born(1, 10)", "mark(0, 1, 10, 1)", "mark(0, 2, 10, 2)", "fact(1, 10, 9)", "load()", "day(5)",
            "split(0, 20, 2, 3, 1, 2)", "mark(1, 2, 20, 5)", "fact(3, 25, 4)"};
        for (int known = -1; known <= 6; known += 7) {
            String k = String.valueOf(known);
            new Run("a call that asks does nothing", told).asks("told(0, 2, 15, " + k + ")")
                    .asks("thing(0, " + k + ", 5)").asks("hangs(0, " + k + ")").asks("find(2, 25, " + k + ")")
                    .asks("then(2, 2, " + k + ")").asks("by(2, 5, 25, " + k + ")").asks("sum(2, 5, " + k + ")")
                    .asks("compare(2, 15, 25, " + k + ", 1)").asks("count(" + k + ")");
        }
    }

    private static void sameCallsSameAnswers() {
        ThenTables one = new ThenTables();
        ThenTables two = new ThenTables();
        String[] calls = {"born(1, 10)", "born(2, 10)", "fact(1, 15, 7)", "mark(0, 2, 10, 3)", "day(5)",
            "split(0, 20, 3, 4, 1, 2)", "by(2, 100, 25, 5)", "by(2, 3, 25, 4)", "sum(2, 5, 5)", "by(2, 100, 25, 5)",
            "join(1, 2, 30, 5)", "load()", "undo(0)", "then(2, 3, 4)", "then(2, 3, 5)"};
        for (String text : calls) {
            Check.due("the same calls, the same answers: " + text, Call.of(text).on(one), Call.of(text).on(two));
        }
    }
}
