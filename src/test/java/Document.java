import java.io.IOException;
import java.nio.file.Files;
import java.nio.file.Path;
import java.util.Arrays;
import java.util.LinkedHashMap;
import java.util.List;
import java.util.Map;

/**
 * The sentences of the document, each with the test that holds it. A sentence must stand in the
 * document as it is told here, and no words of the terms and the promises may be without a test.
 */
final class Document {
    private static final Path PLACE = Path.of("..", "shared", "DOC.md");

    /** Two titles of the terms that the document does not mark as headings. */
    private static final List<String> TITLES = List.of("The page, templates", "Invoices, notes");

    /** What stands under each heading, on one line. */
    private final Map<String, String> texts = new LinkedHashMap<>();
    /** Of each of these the signs for which there is a test. */
    private final Map<String, boolean[]> held = new LinkedHashMap<>();
    private final boolean there;

    Document() throws IOException {
        there = Files.exists(PLACE);
        if (there) {
            readLines(Files.readAllLines(PLACE));
        } else {
            System.out.println("there is no " + PLACE + ": its sentences are tested, but not looked up");
        }
    }

    private void readLines(List<String> lines) {
        String heading = "";
        for (String line : lines) {
            String words = line.replaceFirst("^- ", "").replaceFirst("^#+ ", "").trim();
            if (line.startsWith("#") || TITLES.contains(words)) {
                heading = words.replaceFirst("^(Promise \\d+):.*", "$1");
                texts.put(heading, "");
            } else if (isTold(words)) {
                texts.merge(heading, withoutSignature(words) + " ", String::concat);
            }
        }
        texts.replaceAll((name, text) -> onOneLine(text));
        texts.forEach((name, text) -> held.put(name, new boolean[text.length()]));
    }

    /** What an interface says ahead of its calls cannot be tested, nor the marks of a block. */
    private static boolean isTold(String words) {
        return !words.startsWith("Ahead of the calls") && !words.startsWith("```");
    }

    /** FaceTest holds the signatures. */
    private static String withoutSignature(String words) {
        return words.replaceFirst("^`[^`]*\\(.*\\)[^`]*`: ", "");
    }

    private static String onOneLine(String text) {
        return text.replace("`", "").replaceAll("\\s+", " ").trim();
    }

    /** Runs the test of a sentence; what it finds wrong is told with the sentence. */
    void says(String heading, String sentence, Runnable test) {
        Checks.begin(heading + ", \"" + sentence + "\"");
        if (there) {
            int place = texts.getOrDefault(heading, "").indexOf(sentence);
            Checks.is("stands in the document", place >= 0 ? 1 : 0, 1);
            if (place >= 0) {
                Arrays.fill(held.get(heading), place, place + sentence.length(), true);
            }
        }
        Checks.isTested(test);
        Checks.begin("");
    }

    /** Tells of words under headings that begin so, or bear a name of the terms, which no test holds. */
    void allIsHeld() {
        for (String heading : texts.keySet()) {
            if (heading.startsWith("Promise") || heading.equals("Terms") || heading.equals("Rates")
                    || TITLES.contains(heading)) {
                Checks.is("without a test, under " + heading, withoutTest(heading), "");
            }
        }
    }

    private String withoutTest(String heading) {
        String text = texts.get(heading);
        StringBuilder left = new StringBuilder();
        for (int i = 0; i < text.length(); i++) {
            left.append(held.get(heading)[i] ? ' ' : text.charAt(i));
        }
        return onOneLine(left.toString());
    }
}
