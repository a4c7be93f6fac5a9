import java.io.IOException;
import java.nio.file.Files;
import java.nio.file.Path;
import java.util.regex.Matcher;
import java.util.regex.Pattern;

/** README.md: its example's calls answer as it says, and it names every call of the face. */
public final class ReadmeTest {
    private static final Pattern LINE = Pattern.compile("x\\.(\\w+\\([^)]*\\)); +// (-?\\d+|true): .*");
    private static final Pattern ROW = Pattern.compile("\\| `(\\w+)\\(.*");

    public static void main(String[] args) throws IOException {
        String readme = Files.readString(Path.of("README.md"));
        example(readme.substring(readme.indexOf("```java") + 7, readme.lastIndexOf("```")));
        calls(readme);
        Check.due("README.md says .ci/run", readme.contains("    .ci/run\n"), true);
        Check.finish();
    }

    private static void example(String text) {
        ThenTables x = new ThenTables();
        int calls = 0;
        for (String line : text.strip().split("\n")) {
            if (line.equals("ThenTables x = new ThenTables();")) {
                continue;
            }
            Matcher m = LINE.matcher(line);
            Check.due("README.md's line is a call with its answer: " + line, m.matches(), true);
            if (m.matches()) {
                long want = m.group(2).equals("true") ? 1 : Long.parseLong(m.group(2));
                Check.due("README.md's " + m.group(1), Call.of(m.group(1)).on(x), want);
                calls++;
            }
        }
        Check.due("README.md has an example", calls > 0, true);
    }

    private static void calls(String readme) {
        StringBuilder named = new StringBuilder();
        for (String line : readme.split("\n")) {
            Matcher m = ROW.matcher(line);
            if (m.matches()) {
                named.append(m.group(1)).append(' ');
            }
        }
        Check.due("README.md's calls", named.toString(), "day born ends split join mark fact load undo told thing "
                + "hangs find then by sum compare count ");
    }
}
