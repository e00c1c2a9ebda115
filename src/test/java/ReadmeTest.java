import java.io.IOException;
import java.lang.reflect.Member;
import java.lang.reflect.Modifier;
import java.nio.file.DirectoryStream;
import java.nio.file.Files;
import java.nio.file.Path;
import java.util.ArrayList;
import java.util.List;
import java.util.Set;
import java.util.TreeSet;
import java.util.regex.Matcher;
import java.util.regex.Pattern;

/** What README.md says: its example answers so, and it names every call, constant and test that there is. */
public final class ReadmeTest {
    private static final Path README = Path.of("README.md");
    private static final Path TESTS = Path.of("src/test/java");

    public static void main(String[] args) throws IOException {
        String readme = Files.readString(README);
        exampleAnswersSo();
        exampleIsTheReadmes(readme);
        namesTheFace(readme);
        namesTheTests(readme);
        Check.end();
    }

    private static void exampleAnswersSo() {
        // README begins
        BlindGuides guides = new BlindGuides();
        for (char letter : "n3;c1 1 2 0;c2 2 0 1;g0 10 7;e0 2;m1,6;".toCharArray()) {
            guides.feed(letter);
        }
        int crossings = guides.city();
        int streets = guides.leads(0, 0, 0);
        int cost = guides.leads(0, 0, 1);
        int turn = guides.leads(0, 0, 2);
        int paid = guides.hire(0, 0);
        int again = guides.hire(0, 0);
        int nights = guides.night(1);
        int bright = guides.hire(0, 0);
        int more = guides.undo();
        guides.feed('x');
        int refused = guides.city();
        int letter = guides.fault();
        // README ends
        Check.due("crossings", crossings, 3);
        Check.due("streets", streets, 1);
        Check.due("cost", cost, 10);
        Check.due("turn", turn, 1);
        Check.due("paid", paid, 10);
        Check.due("again", again, BlindGuides.NOT);
        Check.due("nights", nights, 1);
        Check.due("bright", bright, 5);
        Check.due("more", more, 2);
        Check.due("refused", refused, -11);
        Check.due("letter", letter, 0);
        Check.due("the city stays as it was", guides.told(0), 3);
    }

    /** The lines above are README's, but for its comments, and these begin with the answers that are due above. */
    private static void exampleIsTheReadmes(String readme) throws IOException {
        String source = Files.readString(TESTS.resolve("ReadmeTest.java"));
        List<String> here = codeOf(source.substring(source.indexOf("// README begins\n"), source.indexOf("// README ends\n")));
        int start = readme.indexOf("```java\n") + "```java\n".length();
        String example = readme.substring(start, readme.indexOf("```", start));
        due("the example is README's: " + codeOf(example), here.equals(codeOf(example)));
        for (String line : example.split("\n")) {
            Matcher told = Pattern.compile("int (\\w+) = .*// (-?\\d+|BlindGuides\\.NOT)\\b.*").matcher(line);
            if (line.startsWith("int ")) {
                due("README's answer in " + line,
                    told.matches() && source.contains("Check.due(\"" + told.group(1) + "\", " + told.group(1) + ", " + told.group(2) + ");"));
            }
        }
    }

    private static List<String> codeOf(String lines) {
        List<String> code = new ArrayList<>();
        for (String line : lines.split("\n")) {
            String left = line.replaceAll("//.*", "").strip();
            if (!left.isEmpty()) {
                code.add(left);
            }
        }
        return code;
    }

    private static void namesTheFace(String readme) {
        List<Member> members = new ArrayList<>(List.of(BlindGuides.class.getDeclaredMethods()));
        members.addAll(List.of(BlindGuides.class.getDeclaredFields()));
        Set<String> named = new TreeSet<>();
        for (Member m : members) {
            if (Modifier.isPublic(m.getModifiers())) {
                named.add(m.getName());
                due("README names " + m.getName(), readme.contains("`" + m.getName() + "`"));
            }
        }
        Check.due("calls and constants", named.size(), 39);
        // a row of README's second table: calls alone, each of which there is
        for (String line : readme.split("\n")) {
            Matcher row = Pattern.compile("\\| ((`\\w{3,}`(, )?)+) \\|.*").matcher(line);
            if (row.matches()) {
                for (String call : row.group(1).replace("`", "").split(", ")) {
                    due("there is a call " + call, named.contains(call));
                }
            }
        }
    }

    private static void namesTheTests(String readme) throws IOException {
        due("README tells how to run all tests", readme.contains("`bash .ci/run`"));
        Set<String> there = new TreeSet<>();
        try (DirectoryStream<Path> files = Files.newDirectoryStream(TESTS, "*Test.java")) {
            for (Path file : files) {
                there.add(file.getFileName().toString().replace(".java", ""));
            }
        }
        Set<String> named = new TreeSet<>();
        Matcher tests = Pattern.compile("`(\\w+Test)`").matcher(readme);
        while (tests.find()) {
            named.add(tests.group(1));
        }
        due("README names the tests " + there + ", it names " + named, named.equals(there));
    }

    private static void due(String what, boolean is) {
        Check.due(what, is ? 1 : 0, 1);
    }
}
