import java.io.IOException;
import java.lang.reflect.Field;
import java.lang.reflect.Method;
import java.lang.reflect.Modifier;
import java.nio.file.Files;
import java.nio.file.Path;
import java.util.List;
import java.util.regex.Matcher;
import java.util.regex.Pattern;
import java.util.stream.Collectors;
import java.util.stream.Stream;

/** README.md says how to use the class and how to run its tests: all calls, all constants, all tests, and its example holds. */
public final class ReadmeTest {
    private static final Due due = new Due("ReadmeTest");
    private static final Path TESTS = Path.of("src/test/java");

    public static void main(String[] args) throws IOException {
        String readme = Files.readString(Path.of("README.md"));
        namesTheFace(readme);
        namesTheTests(readme);
        namesWhatIsThere(readme);
        example(readme);
        due.end();
    }

    private static void namesTheFace(String readme) {
        for (Method m : HopMeet.class.getDeclaredMethods()) {
            if (Modifier.isPublic(m.getModifiers())) {
                Matcher face = Pattern.compile("(?m)^\\| `" + m.getName() + "\\(([^)]*)\\)` \\|").matcher(readme);
                due.holds("README has a row for " + m.getName(), face.find());
                int parameters = face.reset().find() && !face.group(1).isEmpty() ? face.group(1).split(", ").length : 0;
                due.is("parameters of " + m.getName() + " in README", parameters, m.getParameterCount());
            }
        }
        for (Field f : HopMeet.class.getDeclaredFields()) {
            if (Modifier.isPublic(f.getModifiers())) {
                due.holds("README tells " + f.getName(), readme.contains("`" + f.getName() + "`"));
            }
        }
    }

    private static void namesTheTests(String readme) throws IOException {
        due.holds("README tells .ci/run", readme.contains("\n.ci/run\n") && Files.isExecutable(Path.of(".ci/run")));
        List<String> tests;
        try (Stream<Path> files = Files.list(TESTS)) {
            tests = files.map(p -> p.getFileName().toString()).filter(n -> n.endsWith("Test.java"))
                .map(n -> n.replace(".java", "")).sorted().collect(Collectors.toList());
        }
        due.holds("tests are found", !tests.isEmpty());
        for (String test : tests) {
            due.holds("README has a row for " + test, readme.contains("\n| `" + test + "` |"));
        }
    }

    /** No row is left of what is there no more. */
    private static void namesWhatIsThere(String readme) {
        Matcher test = Pattern.compile("`(\\w+Test)`").matcher(readme);
        while (test.find()) {
            due.holds(test.group(1) + " of README is there", Files.exists(TESTS.resolve(test.group(1) + ".java")));
        }
        Matcher file = Pattern.compile("`((?:src|\\.\\.)/[\\w./]+)`").matcher(readme);
        while (file.find()) {
            due.holds(file.group(1) + " of README is there", Files.exists(Path.of(file.group(1))));
        }
    }

    /** The lines of the example as they stand in README, in their order, each with what it answers. */
    private static void example(String readme) {
        HopMeet x = new HopMeet();
        Object[][] lines = {
            {"int a = x.user(0, 0, 0, 0);", x.user(0, 0, 0, 0)},
            {"int b = x.user(0, 3, 2, 7);", x.user(0, 3, 2, 7)},
            {"x.on(b, 6);", x.on(1, 6)},
            {"x.why(b, 6);", x.why(1, 6)},
            {"x.on(b, 8);", x.on(1, 8)},
            {"x.first(a, b);", x.first(0, 1)},
            {"x.worst(a, b, 20);", x.worst(0, 1, 20)},
            {"x.bound(a, b, 20, 5);", x.bound(0, 1, 20, 5)},
            {"x.shut(HopMeet.NONE, 0, 0, 500);", x.shut(HopMeet.NONE, 0, 0, 500)},
            {"x.first(a, b);", x.first(0, 1)},
            {"x.merge();", x.merge()},
            {"x.undo();", x.undo()},
            {"x.open(a, 16);", x.open(0, 16)},
        };
        exampleIs(readme, lines);
    }

    private static void exampleIs(String readme, Object[][] lines) {
        Matcher block = Pattern.compile("(?s)```java\n(.*?)```").matcher(readme);
        due.holds("README has an example", block.find());
        String[] got = block.reset().find() ? block.group(1).split("\n") : new String[0];
        due.is("lines of README's example, the object's own first", got.length, lines.length + 1);
        due.holds("README's example makes an object", got.length > 0 && got[0].startsWith("HopMeet x = new HopMeet();"));
        for (int i = 0; i < lines.length && i + 1 < got.length; i++) {
            String line = got[i + 1];
            due.holds("README's example has in its place " + lines[i][0], line.startsWith(lines[i][0] + " "));
            due.holds("README's example tells of " + line + " the answer " + lines[i][1], line.endsWith(": " + lines[i][1]));
        }
    }
}
