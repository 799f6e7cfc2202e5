import java.io.IOException;
import java.nio.charset.StandardCharsets;
import java.nio.file.Files;
import java.nio.file.Path;
import java.util.HashSet;
import java.util.List;
import java.util.Set;
import java.util.regex.Matcher;
import java.util.regex.Pattern;

/** The rules of LANGUAGE.md that can be seen in the source; it is run from the project's folder. */
public final class LanguageTest {
    private static final Check C = new Check("LanguageTest");
    private static final Pattern METHOD = Pattern.compile("^( +)((?:public |private |static )*)(?:[\\w\\[\\]]+ )?(\\w+)\\((.*)\\) \\{$");

    public static void main(String[] args) throws IOException {
        String source = Files.readString(Path.of("src/main/java/RailingsCount.java"), StandardCharsets.ISO_8859_1);
        for (char c : source.toCharArray()) {
            if (c > 126 || c < 32 && c != '\n') {
                C.due("a sign of number", c, -1);
            }
        }
        String code = source.replaceAll("//[^\n]*", "").replaceAll("(?s)/\\*.*?\\*/", "").replaceAll("\"[^\"\n]*\"", "\"\"");
        words(code);
        library(code);
        members(code);
        methods(List.of(code.split("\n")));
        C.finish();
    }

    private static int count(String regex, String code) {
        Matcher m = Pattern.compile(regex).matcher(code);
        int n = 0;
        while (m.find()) {
            n++;
        }
        return n;
    }

    private static void words(String code) {
        String[] forbidden = {"throw", "try", "catch", "synchronized", "assert", "double", "float", "volatile", "native",
            "protected", "Object", "var", "hashCode", "toString", "ordinal", "Random", "Thread", "package"};
        for (String word : forbidden) {
            C.due("rule 6: " + word, count("\\b" + word + "\\b", code), 0);
        }
        C.due("no lambda", count("->", code), 0);
        C.due("no method reference", count("::", code), 0);
        C.due("no static block", count("static\\s*\\{", code), 0);
        C.due("no joining by +", count("\"\"\\s*\\+|\\+\\s*\"\"", code), 0);
        C.due("rule 4: no Exact", count("Exact\\b", code), 0);
    }

    private static void library(String code) {
        C.due("one import", count("\\bimport\\b", code), 1);
        C.due("of Arrays", count("import java\\.util\\.Arrays;", code), 1);
        Matcher m = Pattern.compile("\\b(System|Arrays|Math|Integer|Long|String)\\.(\\w+)").matcher(code);
        Set<String> allowed = Set.of("System.arraycopy", "Arrays.copyOf", "Arrays.copyOfRange", "Arrays.fill", "Math.min",
            "Math.max", "Math.abs", "Math.floorMod", "Math.floorDiv", "Integer.compare", "Integer.bitCount", "Long.compare");
        while (m.find()) {
            C.due("rule 4: " + m.group(), allowed.contains(m.group()), true);
        }
    }

    private static void members(String code) {
        C.due("rule 11: twelve classes at most", count("\\bclass \\w+", code) <= 12, true);
        C.due("rule 2: all inside are static", count("\\bclass \\w+", code), count("static final class \\w+", code) + 1);
        for (String line : code.split("\n")) {
            if (line.matches(".*\\bstatic\\b.*[=;].*")) {
                C.due("rule 5: " + line.trim(), line.matches(" *(public |private )?static final (int|long|boolean|char|String)(\\[\\])? .*"), true);
            }
        }
    }

    private static void methods(List<String> lines) {
        Set<String> open = new HashSet<>();
        Set<String> closed = new HashSet<>();
        for (int i = 0; i < lines.size(); i++) {
            Matcher m = METHOD.matcher(lines.get(i));
            if (!m.matches() || m.group(3).matches("if|for|while|switch|else")) {
                continue;
            }
            boolean isConstructor = Character.isUpperCase(m.group(3).charAt(0));
            if (!isConstructor) {
                (m.group(2).contains("public") ? open : closed).add(m.group(3));
            }
            int end = i;
            while (!lines.get(end).equals(m.group(1) + "}")) {
                end++;
            }
            C.due("rule 11: lines of " + m.group(3), end - i < 60, true);
            C.due("rule 11: parameters of " + m.group(3), m.group(4).split(",").length <= 7, true);
        }
        C.due("methods were found", open.size() >= 53 && closed.size() > 50, true);
        for (String name : closed) {
            C.due("rule 1: " + name, open.contains(name), false);
        }
    }
}
