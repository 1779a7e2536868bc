import java.io.IOException;
import java.lang.reflect.Constructor;
import java.lang.reflect.Field;
import java.lang.reflect.Method;
import java.lang.reflect.Modifier;
import java.nio.file.Files;
import java.nio.file.Path;
import java.util.ArrayList;
import java.util.List;
import java.util.Set;
import java.util.TreeSet;
import java.util.regex.Matcher;
import java.util.regex.Pattern;

/** The document's face and what can be seen of LANGUAGE.md without a compiler of one's own. */
public final class LanguageTest {
    private static final Due due = new Due("LanguageTest");
    private static final Path PROGRAM = Path.of("src/main/java/HopMeet.java");
    private static final List<String> FACE = List.of("channels 1", "user 4", "open 2", "set 3", "shut 4", "drift 1", "undo 0",
        "told 1", "userOf 2", "pointsAt 2", "on 2", "why 2", "first 2", "worst 3", "bound 4", "together 3", "even 2",
        "run 1", "merge 0", "part 0", "keep 1", "goBack 1");
    private static final Set<String> CONSTANTS = Set.of("NONE", "NEVER", "UNKNOWN", "OUTSIDE", "NOT", "FULL");
    private static final String[] FORBIDDEN = {"throw", "throws", "try", "catch", "finally", "synchronized", "assert", "import",
        "package", "protected", "native", "volatile", "transient", "strictfp", "var", "yield", "equals", "hashCode", "toString",
        "Object", "Random", "System.out", "currentTimeMillis", "nanoTime", "Thread"};
    private static final int MOST_LINES = 60, MOST_CLASSES = 12, MOST_FIELDS = 20;

    public static void main(String[] args) throws IOException {
        face();
        classesInside();
        String source = Files.readString(PROGRAM);
        due.holds("signs are 1 to 127", source.chars().allMatch(c -> c >= 1 && c < 128));
        String code = withoutComments(source);
        forbiddenWords(code);
        methodsAreShort(code);
        divisorsAreTested(code);
        rowsAreMadeByConstructors(code);
        due.end();
    }

    private static void face() {
        due.holds("public and final", HopMeet.class.getModifiers() == (Modifier.PUBLIC | Modifier.FINAL));
        Constructor<?>[] constructors = HopMeet.class.getDeclaredConstructors();
        due.is("constructors", constructors.length, 1);
        due.holds("the constructor is public and takes nothing",
            Modifier.isPublic(constructors[0].getModifiers()) && constructors[0].getParameterCount() == 0);
        Set<String> open = new TreeSet<>();
        Set<String> openNames = new TreeSet<>();
        for (Method m : HopMeet.class.getDeclaredMethods()) {
            if (!Modifier.isPrivate(m.getModifiers())) {
                due.holds(m.getName() + " is public, of an object, and answers an int",
                    m.getModifiers() == Modifier.PUBLIC && m.getReturnType() == int.class);
                open.add(m.getName() + " " + m.getParameterCount());
                openNames.add(m.getName());
            }
        }
        due.holds("the methods are the document's: " + open, open.equals(new TreeSet<>(FACE)));
        for (Method m : HopMeet.class.getDeclaredMethods()) {
            due.holds("no private method has a public one's name: " + m.getName(),
                !Modifier.isPrivate(m.getModifiers()) || !openNames.contains(m.getName()));
        }
        Set<String> constants = new TreeSet<>();
        for (Field f : HopMeet.class.getDeclaredFields()) {
            if (!Modifier.isPrivate(f.getModifiers())) {
                due.holds(f.getName() + " is a constant of int", f.getType() == int.class
                    && f.getModifiers() == (Modifier.PUBLIC | Modifier.STATIC | Modifier.FINAL));
                constants.add(f.getName());
            }
        }
        due.holds("the constants are the document's: " + constants, constants.equals(CONSTANTS));
    }

    private static void classesInside() {
        Class<?>[] inside = HopMeet.class.getDeclaredClasses();
        due.holds("some twelve classes", inside.length + 1 <= MOST_CLASSES);
        fewFields(HopMeet.class);
        for (Class<?> c : inside) {
            due.holds(c + " is static and not open to others", Modifier.isStatic(c.getModifiers())
                && !Modifier.isPublic(c.getModifiers()) && !Modifier.isProtected(c.getModifiers()));
            fewFields(c);
        }
    }

    private static void fewFields(Class<?> c) {
        int fields = 0;
        for (Field f : c.getDeclaredFields()) {
            boolean isStatic = Modifier.isStatic(f.getModifiers());
            due.holds(f + ": what is static is final", !isStatic || Modifier.isFinal(f.getModifiers()));
            fields += isStatic ? 0 : 1;
        }
        due.holds(c + " has some twenty fields", fields <= MOST_FIELDS);
    }

    private static String withoutComments(String source) {
        return source.replaceAll("(?s)/\\*.*?\\*/", "").replaceAll("//[^\n]*", "");
    }

    private static void forbiddenWords(String code) {
        for (String word : FORBIDDEN) {
            Matcher m = Pattern.compile("\\b" + Pattern.quote(word) + "\\b").matcher(code);
            due.holds("the word " + word + " is not used", !m.find());
        }
        for (String sign : new String[] {"->", "::", "@", "\"\"\""}) {
            due.holds("the sign " + sign + " is not used", !code.contains(sign));
        }
        Matcher call = Pattern.compile("\\b([A-Z][A-Za-z]*)\\.([a-z][A-Za-z]*)\\(").matcher(code);
        Set<String> allowed = Set.of("Math.max", "Math.min", "Integer.bitCount", "System.arraycopy", "Scene.holds");
        while (call.find()) {
            String name = call.group(1) + "." + call.group(2);
            due.holds(name + " is in what the rules list", allowed.contains(name));
        }
    }

    private static void methodsAreShort(String code) {
        List<Integer> starts = new ArrayList<>();
        String[] lines = code.split("\n");
        for (int i = 0; i < lines.length; i++) {
            boolean opens = lines[i].matches(" {4}(    )?[a-zA-Z].*\\) \\{");
            boolean control = lines[i].trim().matches("(if|for|while|switch|else).*");
            if (opens && !control) {
                starts.add(i);
            }
        }
        due.holds("methods are found", starts.size() > FACE.size());
        for (int start : starts) {
            String end = lines[start].replaceAll("\\S.*", "") + "}";
            int last = start;
            while (last < lines.length && !lines[last].equals(end)) {
                last++;
            }
            due.holds(lines[start].trim() + " is short", last - start < MOST_LINES);
            due.holds(lines[start].trim() + " takes few parameters", lines[start].chars().filter(c -> c == ',').count() < 7);
        }
    }

    /** A divisor is a constant, a loop's own counter from 2 on, or the one that the line itself tests. */
    private static void divisorsAreTested(String code) {
        Set<String> safe = Set.of("LOT_MODULUS", "MOST_UNDONE", "k");
        int divisions = 0;
        for (String line : code.split("\n")) {
            Matcher division = Pattern.compile("[/%]=? *(\\w+|\\()").matcher(line);
            while (division.find()) {
                divisions++;
                String divisor = division.group(1);
                due.holds("the divisor " + divisor + " is tested in " + line.trim(),
                    safe.contains(divisor) || line.contains(divisor + " > 0 ?"));
            }
        }
        due.holds("divisions are found", divisions > 0);
    }

    /** All calls of a run live in one room, so what an object needs is made with it and used again. */
    private static void rowsAreMadeByConstructors(String code) {
        String maker = "";
        int made = 0;
        for (String line : code.split("\n")) {
            if (line.matches(" {4}(    )?[a-zA-Z].*\\) \\{") && !line.trim().matches("(if|for|while|switch|else).*")) {
                maker = line.trim();
            }
            if (line.matches(".*\\bnew\\b.*")) {
                made++;
                due.holds(line.trim() + " stands in a constructor, not in " + maker, maker.matches("(public )?[A-Z][A-Za-z]*\\(\\) \\{"));
            }
        }
        due.holds("what is made is found", made > 0);
    }
}
