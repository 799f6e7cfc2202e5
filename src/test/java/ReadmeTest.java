import java.io.IOException;
import java.lang.reflect.Method;
import java.nio.file.Files;
import java.nio.file.Path;
import java.util.ArrayList;
import java.util.List;
import java.util.regex.Matcher;
import java.util.regex.Pattern;

/** README.md's examples, call by call: each answers what stands behind it; and all calls of the face are named there. */
public final class ReadmeTest {
    private static final Check C = new Check("ReadmeTest");
    private static final Pattern READ = Pattern.compile("read\\(x, \"([^\"]*)\"\\); +// (-?\\d+).*");
    private static final Pattern CALL = Pattern.compile("x\\.(\\w+)\\(([^)]*)\\); +// (-?\\d+|true|false)\\b.*");

    public static void main(String[] args) throws IOException, ReflectiveOperationException {
        String page = Files.readString(Path.of("README.md"));
        Matcher block = Pattern.compile("```java\n(RailingsCount x = new RailingsCount\\(\\);\n.*?)```", Pattern.DOTALL).matcher(page);
        int blocks = 0;
        while (block.find()) {
            play(block.group(1).split("\n"));
            blocks++;
        }
        C.due("examples", blocks, 2);
        for (Method m : RailingsCount.class.getMethods()) {
            if (m.getDeclaringClass() == RailingsCount.class) {
                C.due(m.getName() + " is named", page.contains("`" + m.getName() + "`"), true);
            }
        }
        C.finish();
    }

    private static void play(String[] lines) throws ReflectiveOperationException {
        RailingsCount x = new RailingsCount();
        for (int i = 1; i < lines.length; i++) {
            Matcher read = READ.matcher(lines[i]);
            Matcher call = CALL.matcher(lines[i]);
            if (read.matches()) {
                C.due(lines[i], Check.read(x, read.group(1)), Integer.parseInt(read.group(2)));
            } else if (call.matches()) {
                C.due(lines[i], String.valueOf(answer(x, call.group(1), call.group(2).split(", "))), call.group(3));
            } else {
                C.due("a line with a call and its answer: " + lines[i], false, true);
            }
        }
    }

    private static Object answer(RailingsCount x, String name, String[] words) throws ReflectiveOperationException {
        List<Object> given = new ArrayList<>();
        for (String word : words) {
            if (word.equals("true") || word.equals("false")) {
                given.add(word.equals("true"));
            } else if (!word.isEmpty()) {
                given.add(Integer.parseInt(word));
            }
        }
        for (Method m : RailingsCount.class.getMethods()) {
            if (m.getName().equals(name) && m.getDeclaringClass() == RailingsCount.class) {
                return m.invoke(x, given.toArray());
            }
        }
        return "no such call";
    }
}
