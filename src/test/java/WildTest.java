import java.io.IOException;
import java.lang.reflect.Method;
import java.lang.reflect.Modifier;
import java.nio.file.Files;
import java.nio.file.Path;
import java.util.ArrayList;
import java.util.Comparator;
import java.util.List;
import java.util.Random;

/** Every method with any arguments in any state: none may throw; and the face is the document's, no more. */
public final class WildTest {
    private static final Check C = new Check("WildTest");
    private static final int[] EDGES = {Integer.MIN_VALUE, Integer.MIN_VALUE + 1, -2, -1, 0, 1, 2, 6, 7, 11, 12, 13, 29,
        30, 31, 40, 59, 60, 61, 299, 300, 301, 9999, 10000, Integer.MAX_VALUE - 1, Integer.MAX_VALUE};

    public static void main(String[] args) throws Exception {
        List<Method> face = new ArrayList<>();
        for (Method m : RailingsCount.class.getDeclaredMethods()) {
            if (Modifier.isPublic(m.getModifiers())) {
                face.add(m);
            } else {
                C.due("private: " + m.getName(), Modifier.isPrivate(m.getModifiers()), true);
            }
        }
        face.sort(Comparator.comparing(Method::getName));
        C.due("methods of the face", face.size(), 53);
        likeTheDocument(face);
        C.due("public constants", RailingsCount.class.getFields().length, 1);
        for (int seed = 0; seed < 200; seed++) {
            wild(face, new Random(seed));
        }
        C.finish();
    }

    /** Each method as it stands in the document's public face, and none beside these. */
    private static void likeTheDocument(List<Method> face) throws IOException {
        Path document = Path.of("../shared/DOC.md");
        if (!Files.exists(document)) {
            System.out.println("WildTest: " + document + " is not here, so the face is not compared with it");
            return;
        }
        List<String> lines = new ArrayList<>();
        for (String line : Files.readString(document).split("```")[1].split("\n")) {
            if (line.contains("(") && !line.contains(" RailingsCount(")) {
                lines.add(line.replaceAll("(int|boolean) \\w+(?=[,)])", "$1").trim());
            }
        }
        C.due("methods of the document", lines.size(), face.size());
        for (Method m : face) {
            List<String> types = new ArrayList<>();
            for (Class<?> type : m.getParameterTypes()) {
                types.add(type.getName());
            }
            String written = "public " + m.getReturnType() + " " + m.getName() + "(" + String.join(", ", types) + ");";
            C.due(written, lines.contains(written) && !Modifier.isStatic(m.getModifiers()), true);
        }
    }

    private static void wild(List<Method> face, Random random) throws Exception {
        RailingsCount x = new RailingsCount();
        Texts texts = new Texts(random);
        for (int i = 0; i < 512; i++) {
            if (random.nextInt(20) == 0) {
                Check.read(x, random.nextBoolean() ? texts.text() : texts.deepText());
            }
            Method m = face.get(random.nextInt(face.size()));
            Object[] given = new Object[m.getParameterCount()];
            for (int k = 0; k < given.length; k++) {
                given[k] = m.getParameterTypes()[k] == boolean.class ? (Object) random.nextBoolean() : (Object) any(random);
            }
            m.invoke(x, given);
        }
        C.due("went through", x.about(0) >= 0, true);
    }

    private static int any(Random random) {
        switch (random.nextInt(4)) {
            case 0: return EDGES[random.nextInt(EDGES.length)];
            case 1: return random.nextInt();
            default: return random.nextInt(10);
        }
    }
}
