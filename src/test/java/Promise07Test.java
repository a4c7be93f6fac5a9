/**
 * Promise 7, mark: "A MARK is told: true. False, doing nothing: not as told, MARK 0 was told (and that isn't undone),
 * 300 tellings are there."
 */
public final class Promise07Test {
    public static void main(String[] args) {
        things();
        marks();
        days();
        values();
        onAnyDayOfItsLifeOrNot();
        markZeroWasTold();
        markZeroOfAnother();
        otherMarksAreToldAgain();
        markZeroUndone();
        markZeroAndAnotherLoad();
        threeHundredTellings();
        threeHundredWithMarkZero();
        undoneOnesCount();
        Check.finish();
    }

    private static void things() {
        new Run("a THING that is none, of no THINGS").refused("mark(0, 2, 10, 5)", false)
                .refused("mark(-1, 2, 10, 5)", false);
        new Run("a THING that is none", "born(5, 10)", "born(6, 10)").refused("mark(-1, 2, 10, 5)", false)
                .refused("mark(2, 2, 10, 5)", false).refused("mark(39, 2, 10, 5)", false)
                .refused("mark(40, 2, 10, 5)", false).refused("mark(min, 2, 10, 5)", false)
                .refused("mark(max, 2, 10, 5)", false).due("mark(0, 2, 10, 5)", true).due("mark(1, 2, 10, 6)", true)
                .due("told(0, 2, 10, 0)", 5).due("told(1, 2, 10, 0)", 6).due("count(3)", 2);
    }

    private static void marks() {
        new Run("MARKS 0 to 3", "born(5, 10)").refused("mark(0, -1, 10, 5)", false)
                .refused("mark(0, 4, 10, 5)", false).refused("mark(0, 5, 10, 5)", false)
                .refused("mark(0, min, 10, 5)", false).refused("mark(0, max, 10, 5)", false)
                .due("mark(0, 0, 10, 5)", true).due("mark(0, 1, 10, 6)", true).due("mark(0, 2, 10, 7)", true)
                .due("mark(0, 3, 10, 8)", true).due("told(0, 0, 10, 0)", 5).due("told(0, 1, 10, 0)", 6)
                .due("told(0, 2, 10, 0)", 7).due("told(0, 3, 10, 0)", 8).due("count(3)", 4);
    }

    private static void days() {
        for (int mark = 0; mark < 4; mark++) {
            new Run("DAYS 0 to 2,000, MARK " + mark, "born(5, 10)", "born(6, 10)")
                    .refused("mark(0, " + mark + ", -1, 5)", false).refused("mark(0, " + mark + ", 2001, 5)", false)
                    .refused("mark(0, " + mark + ", min, 5)", false).refused("mark(0, " + mark + ", max, 5)", false)
                    .due("mark(0, " + mark + ", 0, 5)", true).due("mark(1, " + mark + ", 2000, 6)", true)
                    .due("told(0, " + mark + ", 2000, 0)", 5).due("told(1, " + mark + ", 2000, 0)", 6);
        }
    }

    private static void values() {
        for (int mark = 0; mark < 4; mark++) {
            new Run("VALUES 0 to 99, MARK " + mark, "born(5, 10)", "born(6, 10)")
                    .refused("mark(0, " + mark + ", 10, -1)", false).refused("mark(0, " + mark + ", 10, 100)", false)
                    .refused("mark(0, " + mark + ", 10, 101)", false).refused("mark(0, " + mark + ", 10, min)", false)
                    .refused("mark(0, " + mark + ", 10, max)", false).due("mark(0, " + mark + ", 10, 0)", true)
                    .due("mark(1, " + mark + ", 10, 99)", true).due("told(0, " + mark + ", 10, 0)", 0)
                    .due("told(1, " + mark + ", 10, 0)", 99);
        }
    }

    private static void onAnyDayOfItsLifeOrNot() {
        new Run("a MARK is told from a DAY on which its THING doesn't live", "born(5, 10)", "ends(0, 20)")
                .due("mark(0, 2, 9, 1)", true).due("mark(0, 2, 20, 2)", true).due("mark(0, 3, 2000, 3)", true)
                .due("told(0, 2, 9, 0)", 1).due("told(0, 2, 19, 0)", 1).due("told(0, 2, 20, 0)", 2);
    }

    private static void markZeroWasTold() {
        new Run("MARK 0 was told", "born(5, 10)").due("mark(0, 0, 10, 5)", true).refused("mark(0, 0, 10, 5)", false)
                .refused("mark(0, 0, 10, 6)", false).refused("mark(0, 0, 9, 6)", false)
                .refused("mark(0, 0, 11, 6)", false).refused("mark(0, 0, 0, 5)", false)
                .refused("mark(0, 0, 2000, 5)", false).due("count(3)", 1).due("told(0, 0, 2000, 0)", 5);
        new Run("MARK 0 was told with VALUE 0", "born(5, 10)").due("mark(0, 0, 0, 0)", true)
                .refused("mark(0, 0, 0, 0)", false).refused("mark(0, 0, 10, 1)", false);
        new Run("MARK 0 was told from the last DAY", "born(5, 10)").due("mark(0, 0, 2000, 99)", true)
                .refused("mark(0, 0, 0, 99)", false).refused("mark(0, 0, 2000, 1)", false);
        new Run("MARK 0 was told on an earlier DAY", "born(5, 10)", "mark(0, 0, 10, 5)", "day(1)")
                .refused("mark(0, 0, 10, 6)", false).tell("day(2000)").refused("mark(0, 0, 10, 6)", false);
    }

    private static void markZeroOfAnother() {
        new Run("MARK 0 of another THING was told", "born(5, 10)", "born(6, 10)", "mark(0, 0, 10, 5)")
                .due("mark(1, 0, 10, 6)", true).refused("mark(1, 0, 10, 6)", false).due("told(0, 0, 10, 0)", 5)
                .due("told(1, 0, 10, 0)", 6);
        new Run("another MARK was told", "born(5, 10)", "mark(0, 1, 10, 5)", "mark(0, 2, 10, 5)", "mark(0, 3, 10, 5)")
                .due("mark(0, 0, 10, 6)", true);
        new Run("a part doesn't have the MARK 0 of what it comes from", "born(5, 10)", "mark(0, 0, 10, 5)",
                "split(0, 20, 6, 7, 1, 2)").due("told(1, 0, 20, 0)", 100).due("mark(1, 0, 20, 6)", true)
                .due("mark(2, 0, 20, 7)", true).refused("mark(0, 0, 20, 8)", false);
    }

    private static void otherMarksAreToldAgain() {
        for (int mark = 1; mark < 4; mark++) {
            new Run("MARK " + mark + " is told again", "born(5, 10)").due("mark(0, " + mark + ", 10, 5)", true)
                    .due("mark(0, " + mark + ", 10, 5)", true).due("mark(0, " + mark + ", 10, 6)", true)
                    .due("told(0, " + mark + ", 10, 0)", 6).due("count(3)", 3);
        }
    }

    private static void markZeroUndone() {
        new Run("and that isn't undone", "born(5, 10)", "day(3)", "mark(0, 0, 10, 5)", "load()")
                .refused("mark(0, 0, 10, 6)", false).due("undo(0)", 1).due("mark(0, 0, 10, 6)", true)
                .refused("mark(0, 0, 10, 7)", false).due("told(0, 0, 10, 3)", 6).due("told(0, 0, 10, 2)", 100)
                .due("load()", 2).refused("mark(0, 0, 10, 7)", false).due("undo(1)", 1)
                .due("mark(0, 0, 10, 7)", true).due("told(0, 0, 10, 3)", 7).due("count(3)", 3);
        new Run("and that isn't undone, on a later DAY", "born(5, 10)", "mark(0, 0, 10, 5)", "load()", "day(3)",
                "undo(0)").due("mark(0, 0, 20, 6)", true).refused("mark(0, 0, 20, 7)", false)
                .due("told(0, 0, 0, 2)", 5).due("told(0, 0, 0, 3)", 6);
        new Run("told again behind the DAY of the undoing", "born(5, 10)", "mark(0, 0, 10, 5)", "load()", "day(3)",
                "undo(0)", "day(5)").due("mark(0, 0, 20, 6)", true).due("told(0, 0, 0, 2)", 5)
                .due("told(0, 0, 0, 3)", 100).due("told(0, 0, 0, 4)", 100).due("told(0, 0, 0, 5)", 6);
    }

    private static void markZeroAndAnotherLoad() {
        new Run("another LOAD is undone", "born(5, 10)", "mark(0, 1, 10, 5)", "load()", "mark(0, 0, 10, 5)", "load()",
                "mark(0, 1, 10, 6)", "load()", "undo(0)", "undo(2)").refused("mark(0, 0, 10, 6)", false)
                .due("undo(1)", 1).due("mark(0, 0, 10, 6)", true);
    }

    private static void threeHundredTellings() {
        new Run("300 tellings are there", "born(5, 10)").tellEach(0, 298, i -> "mark(0, 1, 10, " + i % 100 + ")")
                .due("mark(0, 2, 10, 5)", true).due("count(3)", 299).due("mark(0, 2, 10, 6)", true)
                .due("count(3)", 300).refused("mark(0, 2, 10, 7)", false).refused("mark(0, 1, 10, 7)", false)
                .refused("mark(0, 0, 10, 7)", false).due("count(3)", 300).due("told(0, 2, 10, 0)", 6);
    }

    private static void threeHundredWithMarkZero() {
        new Run("the 300th telling is of MARK 0", "born(5, 10)").tellEach(0, 299, i -> "mark(0, 3, 10, 1)")
                .due("mark(0, 0, 10, 5)", true).due("count(3)", 300).due("told(0, 0, 10, 0)", 5)
                .refused("mark(0, 3, 10, 1)", false);
    }

    private static void undoneOnesCount() {
        new Run("300 tellings are there, also if they are undone", "born(5, 10)")
                .tellEach(0, 299, i -> "mark(0, 1, 10, 1)").tell("load()", "undo(0)").due("count(3)", 299)
                .due("mark(0, 1, 10, 2)", true).refused("mark(0, 1, 10, 3)", false).due("count(3)", 300)
                .due("told(0, 1, 10, 0)", 2);
    }
}
