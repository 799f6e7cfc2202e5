import java.nio.charset.StandardCharsets;

/** What the project's tests share: answers that are due, and tapes written as text. */
final class Check {
    private int wrong = 0;
    private int right = 0;
    private final String name;

    Check(String name) {
        this.name = name;
    }

    void due(String what, long got, long want) {
        if (got == want) {
            right++;
            return;
        }
        wrong++;
        System.out.println(name + ": " + what + " answered " + got + ", due is " + want);
    }

    void due(String what, boolean got, boolean want) {
        due(what, got ? 1 : 0, want ? 1 : 0);
    }

    void due(String what, String got, String want) {
        due(got.equals(want) ? what : what + ": " + got + " for " + want, got.equals(want), true);
    }

    int right() {
        return right;
    }

    int wrong() {
        return wrong;
    }

    /** Ends the test, with exit code 1 if an answer was wrong or there was none. */
    void finish() {
        System.out.println(name + ": " + right + " answers as due, " + wrong + " not");
        if (wrong > 0 || right == 0) {
            System.exit(1);
        }
    }

    /** Puts a text on the tape, behind nothing. */
    static void tape(RailingsCount x, String text) {
        byte[] bytes = text.getBytes(StandardCharsets.ISO_8859_1);
        x.end(0);
        for (int i = 0; i < bytes.length; i += 20) {
            x.feed(word(bytes, i), word(bytes, i + 4), word(bytes, i + 8), word(bytes, i + 12), word(bytes, i + 16));
        }
        x.end(bytes.length);
    }

    static int word(byte[] bytes, int from) {
        int word = 0;
        for (int i = from; i < from + 4; i++) {
            word = word << 8 | (i < bytes.length ? bytes[i] & 255 : 0);
        }
        return word;
    }

    /** Reads a text: its number, or NONE. */
    static int read(RailingsCount x, String text) {
        tape(x, text);
        return x.text();
    }

    /** Reads a text that must be without a FAULT and lets it rule. */
    static void rule(RailingsCount x, String text) {
        int number = read(x, text);
        if (number < 0 || !x.by(number)) {
            throw new IllegalStateException("the test's own text has fault " + x.fault(0) + " at " + x.fault(1) + ": " + text);
        }
    }
}
