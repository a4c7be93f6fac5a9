import java.io.IOException;
import java.lang.reflect.Constructor;
import java.lang.reflect.Field;
import java.lang.reflect.Method;
import java.lang.reflect.Modifier;
import java.nio.file.Files;
import java.nio.file.Path;
import java.util.Arrays;
import java.util.Set;
import java.util.TreeSet;
import java.util.regex.Matcher;
import java.util.regex.Pattern;

/** The class's face as the document lists it, and the rules of LANGUAGE.md that can be read off the source. */
public final class FaceTest {
    private static final String[] FACE = {
        "boolean day(int)", "int born(int, int)", "boolean ends(int, int)", "int split(int, int, int, int, int, int)",
        "int join(int, int, int, int)", "boolean mark(int, int, int, int)", "int fact(int, int, int)", "int load()",
        "int undo(int)", "int told(int, int, int, int)", "int thing(int, int, int)", "int hangs(int, int)",
        "int find(int, int, int)", "long then(int, int, int)", "long by(int, int, int, int)",
        "long sum(int, int, int)", "int compare(int, int, int, int, int)", "int count(int)"};

    public static void main(String[] args) throws IOException {
        face();
        members();
        words();
        Check.finish();
    }

    private static void face() {
        Set<String> found = new TreeSet<>();
        for (Method m : ThenTables.class.getDeclaredMethods()) {
            if (!Modifier.isPrivate(m.getModifiers())) {
                found.add(m.getReturnType() + " " + m.getName() + "("
                        + String.join(", ", Arrays.stream(m.getParameterTypes()).map(Class::getName).toList()) + ")");
                Check.due(m + " is public and not static", Modifier.isPublic(m.getModifiers())
                        && !Modifier.isStatic(m.getModifiers()), true);
            }
        }
        Check.due("the methods", found.toString(), new TreeSet<>(Arrays.asList(FACE)).toString());
        Check.due("public and final", ThenTables.class.getModifiers(), Modifier.PUBLIC | Modifier.FINAL);
        Constructor<?>[] made = ThenTables.class.getDeclaredConstructors();
        Check.due("one constructor", made.length, 1);
        Check.due("without parameters", made[0].getParameterCount(), 0);
        Check.due("that is public", Modifier.isPublic(made[0].getModifiers()), true);
    }

    private static void members() {
        for (Field f : ThenTables.class.getDeclaredFields()) {
            boolean isNone = f.getName().equals("NONE");
            Check.due(f + " is private but for NONE", Modifier.isPrivate(f.getModifiers()), !isNone);
            boolean isStatic = Modifier.isStatic(f.getModifiers());
            Check.due(f + " is final if static", !isStatic || Modifier.isFinal(f.getModifiers()), true);
        }
        Set<String> names = new TreeSet<>();
        for (String f : FACE) {
            names.add(f.substring(f.indexOf(' ') + 1, f.indexOf('(')));
        }
        for (Class<?> inside : ThenTables.class.getDeclaredClasses()) {
            Check.due(inside + " is static", Modifier.isStatic(inside.getModifiers()), true);
            for (Method m : inside.getDeclaredMethods()) {
                Check.due(m + " has a name of its own", names.contains(m.getName()), false);
            }
        }
        for (Method m : ThenTables.class.getDeclaredMethods()) {
            boolean isPrivate = Modifier.isPrivate(m.getModifiers());
            Check.due(m + " has a name of its own", isPrivate && names.contains(m.getName()), false);
        }
    }

    private static void words() throws IOException {
        String source = Files.readString(Path.of("src/main/java/ThenTables.java"));
        String code = source.replaceAll("(?s)/\\*.*?\\*/", "").replaceAll("//[^\n]*", "");
        String[] forbidden = {"\\bthrow", "\\btry\\b", "\\bcatch\\b", "\\bsynchronized\\b", "\\bassert\\b",
            "\\bimport\\b", "\\bpackage\\b", "->", "::", "Exact\\b", "\\bSystem\\b", "\\bObject\\b", "\\bprotected\\b"};
        for (String word : forbidden) {
            Matcher m = Pattern.compile(word).matcher(code);
            Check.due("the source has " + word, m.find(), false);
        }
    }
}
