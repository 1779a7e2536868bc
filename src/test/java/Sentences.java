import java.io.IOException;
import java.nio.file.Files;
import java.nio.file.Path;
import java.util.LinkedHashMap;
import java.util.Map;

/**
 * The document's sentences: a case names the one that it tests, and each answer that is not the one due is told with it.
 * A sentence that the document does not have, one that is named without an answer, and one that no case names are faults too.
 */
final class Sentences {
    private static final Path DOCUMENT = Path.of("../shared/DOC.md");

    private final Due due;
    private final Map<String, String> texts = new LinkedHashMap<>();
    private final Map<String, boolean[]> named = new LinkedHashMap<>();
    private String sentence = "";
    private int answers = 1;

    Sentences(Due due) throws IOException {
        this.due = due;
        for (String part : Files.readString(DOCUMENT).split("(?m)^## ")) {
            int endOfTitle = part.indexOf('\n');
            String title = part.substring(0, endOfTitle).replaceAll(":.*", "");
            String text = plain(part.substring(endOfTitle));
            texts.put(title, text);
            named.put(title, new boolean[text.length()]);
        }
    }

    // Marks of the layout, faces of methods and the interface's own headings are no sentences.
    private static String plain(String part) {
        return part.replaceAll("(?s)```java.*?```", " ").replaceAll("```(text)?", " ").replaceAll("======== [0-9] ", " ")
            .replaceAll("(?m)^Ahead of the calls.*$", " ").replaceAll("(?m)^`[^`]*`:", " ").replaceAll("\\s+", " ");
    }

    /** The answers that follow are due by this sentence of that part of the document. */
    void says(String part, String words) {
        hasAnswers();
        sentence = part + " \"" + words + "\"";
        answers = 0;
        String text = texts.getOrDefault(part, "");
        int at = text.indexOf(words);
        due.holds("the document says in " + sentence, at >= 0);
        for (; at >= 0; at = text.indexOf(words, at + 1)) {
            for (int i = at; i < at + words.length(); i++) {
                named.get(part)[i] = true;
            }
        }
    }

    /** A sentence about the document itself, by which no answer is due. */
    void saysOfItself(String part, String words) {
        says(part, words);
        answers = 1;
    }

    void is(String call, long got, long want) {
        answers++;
        due.is(sentence + ": " + call, got, want);
    }

    void unknown(String call, long got) {
        is(call, got, HopMeet.UNKNOWN);
    }

    void outside(String call, long got) {
        is(call, got, HopMeet.OUTSIDE);
    }

    void not(String call, long got) {
        is(call, got, HopMeet.NOT);
    }

    void full(String call, long got) {
        is(call, got, HopMeet.FULL);
    }

    /** Every word of Terms and of the promises stands in a sentence that some case named. */
    void allAreNamed() {
        hasAnswers();
        int promises = 0;
        for (String part : texts.keySet()) {
            if (part.equals("Terms") || part.startsWith("Promise ")) {
                promises += part.equals("Terms") ? 0 : 1;
                String left = notNamed(part);
                due.holds(part + ": no case names \"" + left + "\", so that all is named", left.isEmpty());
            }
        }
        due.is("promises of the document", promises, 23);
    }

    private void hasAnswers() {
        due.holds(sentence + " has an answer", answers > 0);
    }

    private String notNamed(String part) {
        StringBuilder left = new StringBuilder();
        String text = texts.get(part);
        for (int i = 0; i < text.length(); i++) {
            if (!named.get(part)[i]) {
                left.append(text.charAt(i));
            }
        }
        // Brackets and stops between sentences that were named one by one say nothing.
        return left.toString().matches("[^A-Za-z0-9]*") ? "" : left.toString();
    }
}
