import java.io.IOException;
import java.lang.reflect.Executable;
import java.lang.reflect.Field;
import java.lang.reflect.Member;
import java.lang.reflect.Method;
import java.lang.reflect.Modifier;
import java.nio.file.Files;
import java.nio.file.Path;
import java.util.ArrayList;
import java.util.Arrays;
import java.util.HashSet;
import java.util.List;
import java.util.Set;
import java.util.TreeSet;
import java.util.regex.Matcher;
import java.util.regex.Pattern;

/** The face of the class, and the rules of ../shared/LANGUAGE.md that can be seen in its source or by reflection. */
public final class LanguageTest {
    private static final Path SOURCE = Path.of("src/main/java/BlindGuides.java");
    private static final Path DOCUMENT = Path.of("../shared/DOC.md");
    private static final String FACE_LINE = "    public int ";

    public static void main(String[] args) throws IOException {
        List<Class<?>> classes = new ArrayList<>(List.of(BlindGuides.class));
        classes.addAll(Arrays.asList(BlindGuides.class.getDeclaredClasses()));
        face();
        for (Class<?> c : classes) {
            members(c);
        }
        Check.due("classes of the file, above 12", Math.max(classes.size(), 12), 12);
        String source = Files.readString(SOURCE);
        signs(source);
        methodLengths(source);
        Check.end();
    }

    /** Every line of the document's face is a public method here, and nothing else is public. */
    private static void face() throws IOException {
        Set<String> due = new TreeSet<>();
        for (String line : Files.readAllLines(DOCUMENT)) {
            if (line.startsWith(FACE_LINE) && line.endsWith(");")) {
                String name = line.substring(FACE_LINE.length(), line.indexOf('('));
                String inside = line.substring(line.indexOf('(') + 1, line.indexOf(')'));
                due.add(name + Arrays.toString(inside.isEmpty() ? new String[0] : inside.replaceAll(" \\w+(?=,|$)", "").split(", ")));
            }
        }
        Check.due("methods of the document's face", due.size(), 34);
        Set<String> here = new TreeSet<>();
        Set<String> names = new HashSet<>();
        for (Method m : BlindGuides.class.getDeclaredMethods()) {
            if (!Modifier.isPrivate(m.getModifiers())) {
                here.add(m.getName() + Arrays.toString(Arrays.stream(m.getParameterTypes()).map(Class::getName).toArray()));
                names.add(m.getName());
            }
        }
        due("the face is " + here, here.equals(due));
        for (Class<?> c : BlindGuides.class.getDeclaredClasses()) {
            due(c + " is static and not public", Modifier.isStatic(c.getModifiers()) && !Modifier.isPublic(c.getModifiers()));
        }
        for (Method m : BlindGuides.class.getDeclaredMethods()) {
            due(m + " bears no public name", !Modifier.isPrivate(m.getModifiers()) || !names.contains(m.getName()));
        }
        due("the class is public and final", BlindGuides.class.getModifiers() == (Modifier.PUBLIC | Modifier.FINAL));
        Check.due("constructors", BlindGuides.class.getDeclaredConstructors().length, 1);
    }

    private static void members(Class<?> c) {
        int fields = 0;
        for (Field f : c.getDeclaredFields()) {
            boolean isStatic = Modifier.isStatic(f.getModifiers());
            due(f + " is final, if static", !isStatic || Modifier.isFinal(f.getModifiers()));
            boolean constant = c == BlindGuides.class && isStatic && List.of("NONE", "UNKNOWN", "OUTSIDE", "NOT", "FULL").contains(f.getName());
            due(f + " is private, if no constant of the face", constant == Modifier.isPublic(f.getModifiers()) && (constant || isPrivate(f)));
            fields += isStatic ? 0 : 1;
        }
        Check.due("fields of " + c + ", above 20", Math.max(fields, 20), 20);
        List<Executable> executables = new ArrayList<>(Arrays.asList(c.getDeclaredMethods()));
        executables.addAll(Arrays.asList(c.getDeclaredConstructors()));
        for (Executable e : executables) {
            due(e + " has 7 parameters at most", e.getParameterCount() <= 7);
        }
    }

    private static boolean isPrivate(Member m) {
        return Modifier.isPrivate(m.getModifiers());
    }

    private static void due(String what, boolean is) {
        Check.due(what, is ? 1 : 0, 1);
    }

    private static void signs(String source) {
        due("signs 1 to 127 alone", source.chars().allMatch(c -> c > 0 && c < 128));
        String code = source.replaceAll("(?s)/\\*.*?\\*/|//[^\n]*", "");
        Matcher banned = Pattern.compile("\\b(import|package|throw|throws|try|catch|finally|synchronized|assert|instanceof|native|"
            + "volatile|transient|protected|double|float|Object|System|Thread|Random|equals|hashCode|toString|\\w+Exact)\\b|->|::").matcher(code);
        while (banned.find()) {
            due("the source has no " + banned.group(), false);
        }
        due("no part of an object is handed to another as both are made", !Pattern.compile("= new [A-Z]\\w*\\([^)]").matcher(code).find());
        due("no loop without an end", !Pattern.compile("while \\(true\\)|for \\(;;\\)").matcher(code).find());
        // an index stands in the rows' three helpers and in the reader's letter(), each behind its test
        int indexed = 0;
        for (String line : code.split("\n")) {
            if (Pattern.compile("\\w\\[\\w+\\]").matcher(line).find() && !line.contains("new ")) {
                indexed++;
            }
        }
        Check.due("lines that use an index", indexed, 4);
    }

    private static void methodLengths(String source) {
        String[] lines = source.split("\n");
        for (int i = 0; i < lines.length; i++) {
            if (lines[i].matches(" +(public|private)( static)? .*\\) \\{")) {
                String indent = lines[i].substring(0, lines[i].indexOf('p'));
                int end = i;
                while (end < lines.length && !lines[end].equals(indent + "}")) {
                    end++;
                }
                due("sixty lines at most: " + lines[i], end - i < 60);
            }
        }
    }
}
