import java.io.IOException;
import java.nio.charset.StandardCharsets;
import java.nio.file.Files;
import java.nio.file.Path;
import java.util.ArrayList;
import java.util.LinkedHashMap;
import java.util.List;
import java.util.Map;
import java.util.regex.Matcher;
import java.util.regex.Pattern;

/**
 * Tests of single sentences: each says where its sentence stands ("Terms II", "Promise 7") and quotes it. The quotes are
 * looked up in the document, so that a sentence without a test, or a test without its sentence, is seen.
 */
final class Edges {
    private static final Path DOCUMENT = Path.of("../shared/DOC.md");
    private static final String[] PARTS = {"## Terms\n", "==== II.", "==== III.", "==== IV.", "==== V.", "The constants:"};
    private static final String[] PART_NAMES = {"Terms I", "Terms II", "Terms III", "Terms IV", "Terms V"};

    interface Body {
        void test(Check c);
    }

    private final Map<String, String> sections = new LinkedHashMap<>();
    private final Map<String, boolean[]> quoted = new LinkedHashMap<>();
    private final List<String> wrong = new ArrayList<>();
    private int tests = 0;
    private int answers = 0;

    Edges() throws IOException {
        if (!Files.exists(DOCUMENT)) {
            System.out.println("Edges: " + DOCUMENT + " is not here, so no sentence is looked up in it");
            return;
        }
        cut(Files.readString(DOCUMENT, StandardCharsets.UTF_8));
        sections.forEach((where, text) -> quoted.put(where, new boolean[text.length()]));
    }

    private void cut(String document) {
        for (int i = 0; i < PART_NAMES.length; i++) {
            int from = document.indexOf(PARTS[i]) + PARTS[i].length();
            sections.put(PART_NAMES[i], smooth(document.substring(from, document.indexOf(PARTS[i + 1]))));
        }
        Matcher m = Pattern.compile("## (Promise \\d+): \\w.*\n\n`[^`]*`: (.*)").matcher(document);
        while (m.find()) {
            sections.put(m.group(1), smooth(m.group(2)));
        }
    }

    private static String smooth(String text) {
        return text.replace("```text", " ").replace("```", " ").replaceAll("\\s+", " ").trim();
    }

    /** A sentence that names a boundary case, with the test of it. */
    void edge(String where, String quote, Body body) {
        quote(where, quote);
        Check c = new Check(where + ", \"" + quote + "\"");
        body.test(c);
        tests++;
        answers += c.right();
        if (c.wrong() > 0 || c.right() == 0) {
            wrong.add(where + ", \"" + quote + "\": " + c.wrong() + " wrong, " + c.right() + " right");
        }
    }

    /** Words that name no boundary case, or one that stands elsewhere, as told. */
    void plain(String where, String... quotes) {
        for (String quote : quotes) {
            quote(where, quote);
        }
    }

    private void quote(String where, String quote) {
        if (sections.isEmpty()) {
            return;
        }
        String text = sections.getOrDefault(where, "");
        int at = text.indexOf(quote);
        if (at < 0) {
            wrong.add(where + " does not say \"" + quote + "\"");
            return;
        }
        for (int i = at; i < at + quote.length(); i++) {
            quoted.get(where)[i] = true;
        }
    }

    /** Ends the test, with exit code 1 if a test failed or words of the document are quoted by none. */
    void finish() {
        sections.forEach(this::findUnquoted);
        wrong.forEach(line -> System.out.println("Edges: " + line));
        System.out.println("Edges: " + tests + " sentences, " + answers + " answers as due, " + wrong.size() + " faults");
        if (!wrong.isEmpty() || answers == 0) {
            System.exit(1);
        }
    }

    private void findUnquoted(String where, String text) {
        StringBuilder left = new StringBuilder();
        for (int i = 0; i < text.length(); i++) {
            left.append(quoted.get(where)[i] ? '\n' : text.charAt(i));
        }
        for (String words : left.toString().split("\n+")) {
            if (words.matches("(?s).*\\w.*")) {
                wrong.add(where + " has words that no test quotes: \"" + words + "\"");
            }
        }
    }
}
