import com.sun.source.tree.ClassTree;
import com.sun.source.tree.CompilationUnitTree;
import com.sun.source.util.JavacTask;
import com.sun.source.util.Trees;
import java.io.IOException;
import java.nio.charset.StandardCharsets;
import java.nio.file.Files;
import java.nio.file.Path;
import java.util.List;
import javax.tools.JavaCompiler;
import javax.tools.StandardJavaFileManager;
import javax.tools.ToolProvider;

/**
 * The rules of LANGUAGE.md that can be seen in the source, looked at as the compiler reads it; it is run from the
 * project's folder. java -cp FOLDER LanguageTest FILE looks at another file.
 */
public final class LanguageTest {
    private static final Check C = new Check("LanguageTest");

    public static void main(String[] args) throws IOException {
        Path file = Path.of(args.length > 0 ? args[0] : "src/main/java/RailingsCount.java");
        signs(Files.readString(file, StandardCharsets.ISO_8859_1));
        JavaCompiler compiler = ToolProvider.getSystemJavaCompiler();
        try (StandardJavaFileManager files = compiler.getStandardFileManager(null, null, StandardCharsets.UTF_8)) {
            JavacTask task = (JavacTask) compiler.getTask(null, files, null, List.of("-proc:none"), null, files.getJavaFileObjects(file));
            CompilationUnitTree unit = task.parse().iterator().next();
            task.analyze();
            C.due("rule 1: no package", unit.getPackage() == null, true);
            C.due("rule 1: classes beside one another", unit.getTypeDecls().size(), 1);
            C.due("rule 4: imports", unit.getImports().toString().trim(), "import java.util.Arrays;");
            Rules rules = new Rules(C, unit, Trees.instance(task));
            rules.scan(unit, null);
            rules.finish((ClassTree) unit.getTypeDecls().get(0));
        }
        C.finish();
    }

    private static void signs(String source) {
        for (char c : source.toCharArray()) {
            if (c > 126 || c < 32 && c != '\n') {
                C.due("rule 4: a sign of number", c, -1);
            }
        }
        for (String line : source.split("\n")) {
            C.due("rule 6: " + line, line.matches(".*\\b(hashCode|toString|ordinal|equals)\\b.*"), false);
        }
    }
}
