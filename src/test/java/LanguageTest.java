import com.sun.source.tree.CompilationUnitTree;
import com.sun.source.util.JavacTask;
import com.sun.source.util.Trees;
import java.io.IOException;
import java.nio.charset.StandardCharsets;
import java.nio.file.Files;
import java.nio.file.Path;
import java.util.List;
import javax.tools.JavaCompiler;
import javax.tools.StandardJavaFileManager;
import javax.tools.ToolProvider;

/** The program keeps to ../shared/LANGUAGE.md, as far as its text shows; what is wrong is told with the rule's number. */
public final class LanguageTest {
    private static final Path PROGRAM = Path.of("src/main/java/FleetSettings.java");

    public static void main(String[] args) throws IOException {
        JavaCompiler compiler = ToolProvider.getSystemJavaCompiler();
        try (StandardJavaFileManager files = compiler.getStandardFileManager(null, null, StandardCharsets.UTF_8)) {
            JavacTask task = (JavacTask) compiler.getTask(null, files, null, List.of("-proc:none"), null,
                    files.getJavaFileObjects(PROGRAM));
            CompilationUnitTree program = task.parse().iterator().next();
            task.analyze();
            LanguageRules rules = new LanguageRules(program, Trees.instance(task));
            rules.scan(program, null);
            rules.checkWhole();
        }
        Check.due("rules 3 and 4: signs 1 to 127", true, Files.readString(PROGRAM).matches("[\\x01-\\x7f]*"));
        Check.end("LanguageTest");
    }
}
