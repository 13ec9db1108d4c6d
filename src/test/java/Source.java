import com.sun.source.tree.CompilationUnitTree;
import com.sun.source.util.JavacTask;
import com.sun.source.util.Trees;
import java.nio.file.Path;
import java.util.List;
import javax.tools.JavaCompiler;
import javax.tools.ToolProvider;

/** The class's source as the compiler sees it. */
final class Source {
    final Trees trees;
    final CompilationUnitTree unit;

    Source(String file) throws Exception {
        JavaCompiler compiler = ToolProvider.getSystemJavaCompiler();
        try (var files = compiler.getStandardFileManager(null, null, null)) {
            var task = (JavacTask) compiler.getTask(null, files, null, List.of("-proc:none"), null, files.getJavaFileObjects(Path.of(file)));
            unit = task.parse().iterator().next();
            task.analyze();
            trees = Trees.instance(task);
        }
    }
}
