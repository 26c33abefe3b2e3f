import com.sun.source.tree.CompilationUnitTree;
import com.sun.source.util.JavacTask;
import com.sun.source.util.Trees;
import java.io.IOException;
import java.nio.file.Path;
import java.util.List;
import javax.tools.JavaCompiler;
import javax.tools.StandardJavaFileManager;
import javax.tools.ToolProvider;

/** What of ../shared/LANGUAGE.md can be seen in the source of the class, by its syntax tree. */
final class LanguageTest {
    private static final Path SOURCE = Path.of("src", "main", "java", "SapNetwork.java");

    public static void main(String[] args) throws IOException {
        JavaCompiler compiler = ToolProvider.getSystemJavaCompiler();
        try (StandardJavaFileManager files = compiler.getStandardFileManager(null, null, null)) {
            JavacTask task = (JavacTask) compiler.getTask(null, files, null,
                    List.of("--release", "17", "-proc:none"), null, files.getJavaFileObjects(SOURCE));
            CompilationUnitTree source = task.parse().iterator().next();
            task.analyze();
            LanguageRules rules = new LanguageRules(Trees.instance(task), source);
            rules.scan(source, null);
            rules.ofTheWhole();
        }
        Check.end("LanguageTest");
    }
}
