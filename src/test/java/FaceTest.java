import java.io.IOException;
import java.lang.reflect.Constructor;
import java.lang.reflect.Field;
import java.lang.reflect.Method;
import java.lang.reflect.Modifier;
import java.nio.file.Files;
import java.nio.file.Path;
import java.util.ArrayList;
import java.util.Arrays;
import java.util.List;
import java.util.Set;
import java.util.TreeSet;
import java.util.regex.Matcher;
import java.util.regex.Pattern;

/** The class's face as the document lists it, and the rules of LANGUAGE.md that can be read off the source. */
public final class FaceTest {
    private static final String[] FACE = {
        "boolean day(int)", "int born(int, int)", "boolean ends(int, int)", "int split(int, int, int, int, int, int)",
        "int join(int, int, int, int)", "boolean mark(int, int, int, int)", "int fact(int, int, int)", "int load()",
        "int undo(int)", "int told(int, int, int, int)", "int thing(int, int, int)", "int hangs(int, int)",
        "int find(int, int, int)", "long then(int, int, int)", "long by(int, int, int, int)",
        "long sum(int, int, int)", "int compare(int, int, int, int, int)", "int count(int)"};

    public static void main(String[] args) throws IOException {
        face();
        constant();
        members();
        shapes();
        words();
        lengths();
        Check.finish();
    }

    private static void face() {
        Set<String> found = new TreeSet<>();
        for (Method m : ThenTables.class.getDeclaredMethods()) {
            if (!Modifier.isPrivate(m.getModifiers())) {
                found.add(m.getReturnType() + " " + m.getName() + "("
                        + String.join(", ", Arrays.stream(m.getParameterTypes()).map(Class::getName).toList()) + ")");
                Check.due(m + " is public and not static", Modifier.isPublic(m.getModifiers())
                        && !Modifier.isStatic(m.getModifiers()), true);
            }
        }
        Check.due("the methods", found.toString(), new TreeSet<>(Arrays.asList(FACE)).toString());
        Check.due("public and final", ThenTables.class.getModifiers(), Modifier.PUBLIC | Modifier.FINAL);
        Constructor<?>[] made = ThenTables.class.getDeclaredConstructors();
        Check.due("one constructor", made.length, 1);
        Check.due("without parameters", made[0].getParameterCount(), 0);
        Check.due("that is public", Modifier.isPublic(made[0].getModifiers()), true);
    }

    private static void constant() {
        long found = Arrays.stream(ThenTables.class.getFields()).filter(f -> f.getName().equals("NONE")
                && f.getType() == int.class
                && f.getModifiers() == (Modifier.PUBLIC | Modifier.STATIC | Modifier.FINAL)).count();
        Check.due("public static final int NONE", found, 1);
        Check.due("NONE", ThenTables.NONE, -1);
    }

    private static void members() {
        for (Field f : ThenTables.class.getDeclaredFields()) {
            boolean isNone = f.getName().equals("NONE");
            Check.due(f + " is private but for NONE", Modifier.isPrivate(f.getModifiers()), !isNone);
            boolean isStatic = Modifier.isStatic(f.getModifiers());
            Check.due(f + " is final if static", !isStatic || Modifier.isFinal(f.getModifiers()), true);
        }
        Set<String> names = new TreeSet<>();
        for (String f : FACE) {
            names.add(f.substring(f.indexOf(' ') + 1, f.indexOf('(')));
        }
        for (Class<?> inside : ThenTables.class.getDeclaredClasses()) {
            Check.due(inside + " is static", Modifier.isStatic(inside.getModifiers()), true);
            for (Method m : inside.getDeclaredMethods()) {
                Check.due(m + " has a name of its own", names.contains(m.getName()), false);
            }
        }
        for (Method m : ThenTables.class.getDeclaredMethods()) {
            boolean isPrivate = Modifier.isPrivate(m.getModifiers());
            Check.due(m + " has a name of its own", isPrivate && names.contains(m.getName()), false);
        }
    }

    /** LANGUAGE.md, rules 1, 2, 5 and 11: as far as they are numbers and kinds of members. */
    private static void shapes() {
        List<Class<?>> all = new ArrayList<>(List.of(ThenTables.class.getDeclaredClasses()));
        all.add(ThenTables.class);
        Check.due("some twelve classes at most: " + all.size(), all.size() <= 12, true);
        for (Class<?> c : all) {
            int own = 0;
            for (Field f : c.getDeclaredFields()) {
                int kind = f.getModifiers();
                own += Modifier.isStatic(kind) ? 0 : 1;
                boolean constant = f.getType() == int.class && Modifier.isFinal(kind);
                Check.due(f + " is a constant if static", !Modifier.isStatic(kind) || constant, true);
            }
            Check.due(c + " has some twenty fields at most: " + own, own <= 20, true);
            Check.due(c + " has no class inside of its own", c == ThenTables.class
                    || c.getDeclaredClasses().length == 0, true);
            for (Method m : c.getDeclaredMethods()) {
                Check.due(m + " takes at most seven", m.getParameterCount() <= 7, true);
            }
        }
    }

    private static String source() throws IOException {
        return Files.readString(Path.of("src/main/java/ThenTables.java"));
    }

    /** LANGUAGE.md, rules 3 and 11: characters 0 to 255, and methods of some sixty lines. */
    private static void lengths() throws IOException {
        Check.due("characters above 255", source().chars().filter(c -> c > 255).count(), 0);
        String[] lines = source().split("\n");
        int methods = 0;
        for (int start = 0; start < lines.length; start++) {
            if (lines[start].matches(" {4,8}(?!if |for |while |switch |\\})[a-zA-Z].*\\) \\{")) {
                methods++;
                String last = lines[start].replaceAll("\\S.*", "") + "}";
                int length = List.of(lines).subList(start, lines.length).indexOf(last) + 1;
                Check.due("a method has sixty lines at most: " + lines[start].trim(), length <= 60, true);
            }
        }
        Check.due("methods were found", methods > FACE.length, true);
    }

    private static void words() throws IOException {
        String code = source().replaceAll("(?s)/\\*.*?\\*/", "").replaceAll("//[^\n]*", "");
        String[] forbidden = {"\\bthrow", "\\btry\\b", "\\bcatch\\b", "\\bsynchronized\\b", "\\bassert\\b",
            "\\bimport\\b", "\\bpackage\\b", "->", "::", "Exact\\b", "\\bSystem\\b", "\\bObject\\b", "\\bprotected\\b"};
        for (String word : forbidden) {
            Matcher m = Pattern.compile(word).matcher(code);
            Check.due("the source has " + word, m.find(), false);
        }
    }
}
