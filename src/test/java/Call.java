import java.util.Arrays;

/** A call as text, such as "born(5, 10)"; "min" and "max" stand for the least and the greatest int. */
final class Call {
    private final String name;
    private final int[] a;

    Call(String name, int... arguments) {
        this.name = name;
        this.a = arguments;
    }

    static Call of(String text) {
        int open = text.indexOf('(');
        String inside = text.substring(open + 1, text.length() - 1).trim();
        String[] parts = inside.isEmpty() ? new String[0] : inside.split(",");
        return new Call(text.substring(0, open), Arrays.stream(parts).mapToInt(Call::number).toArray());
    }

    private static int number(String text) {
        return switch (text.trim()) {
            case "min" -> Integer.MIN_VALUE;
            case "max" -> Integer.MAX_VALUE;
            default -> Integer.parseInt(text.trim());
        };
    }

    /** Its answer; a boolean counts 1 or 0. */
    long on(ThenTables x) {
        return switch (name) {
            case "day" -> x.day(a[0]) ? 1 : 0;
            case "born" -> x.born(a[0], a[1]);
            case "ends" -> x.ends(a[0], a[1]) ? 1 : 0;
            case "split" -> x.split(a[0], a[1], a[2], a[3], a[4], a[5]);
            case "join" -> x.join(a[0], a[1], a[2], a[3]);
            case "mark" -> x.mark(a[0], a[1], a[2], a[3]) ? 1 : 0;
            case "fact" -> x.fact(a[0], a[1], a[2]);
            case "load" -> x.load();
            case "undo" -> x.undo(a[0]);
            case "told" -> x.told(a[0], a[1], a[2], a[3]);
            case "thing" -> x.thing(a[0], a[1], a[2]);
            case "hangs" -> x.hangs(a[0], a[1]);
            case "find" -> x.find(a[0], a[1], a[2]);
            case "then" -> x.then(a[0], a[1], a[2]);
            case "by" -> x.by(a[0], a[1], a[2], a[3]);
            case "sum" -> x.sum(a[0], a[1], a[2]);
            case "compare" -> x.compare(a[0], a[1], a[2], a[3], a[4]);
            case "count" -> x.count(a[0]);
            default -> throw new IllegalArgumentException(name);
        };
    }

    boolean answersBoolean() {
        return name.equals("day") || name.equals("ends") || name.equals("mark");
    }

    /** Whether it tells something, and so may change what later calls answer. */
    boolean tells() {
        return answersBoolean() || name.equals("born") || name.equals("split") || name.equals("join")
                || name.equals("fact") || name.equals("load") || name.equals("undo");
    }

    /** Whether a call that tells was taken, by its answer. */
    boolean isTaken(long answer) {
        return answersBoolean() ? answer == 1 : answer >= 0;
    }

    @Override
    public String toString() {
        String inside = Arrays.toString(a);
        return name + "(" + inside.substring(1, inside.length() - 1) + ")";
    }
}
