import com.sun.source.tree.MethodInvocationTree;
import com.sun.source.tree.MethodTree;
import com.sun.source.tree.NewClassTree;
import com.sun.source.tree.CompilationUnitTree;
import com.sun.source.util.JavacTask;
import com.sun.source.util.TreePathScanner;
import com.sun.source.util.Trees;
import java.nio.file.Path;
import java.util.ArrayList;
import java.util.LinkedHashMap;
import java.util.LinkedHashSet;
import java.util.List;
import java.util.Map;
import java.util.Set;
import javax.lang.model.element.Element;
import javax.lang.model.element.Modifier;
import javax.tools.JavaCompiler;
import javax.tools.ToolProvider;

/** Which method calls which, as the compiler sees it: rule 11's calls of eight deep, rule 8's recursion, rule 4's library. */
final class CallGraph {
    private static final int DEEPEST = 8;
    /** The only methods that call one another round and round: down the GROUPS, with the depth as an argument. */
    private static final Set<String> MAY_RECUR = Set.of("writeParts", "writeField", "writeGroup");
    private static final Set<String> MAY_BE_CALLED = Set.of("java.lang.Math.max", "java.lang.Math.abs", "java.util.Arrays.copyOf",
        "java.lang.Object.<init>");

    private final Map<Element, Set<Element>> calls = new LinkedHashMap<>();

    CallGraph(String file) throws Exception {
        JavaCompiler compiler = ToolProvider.getSystemJavaCompiler();
        var files = compiler.getStandardFileManager(null, null, null);
        JavacTask task = (JavacTask) compiler.getTask(null, files, null, List.of("-proc:none"), null, files.getJavaFileObjects(Path.of(file)));
        Iterable<? extends CompilationUnitTree> units = task.parse();
        task.analyze();
        Reader reader = new Reader(Trees.instance(task));
        for (CompilationUnitTree unit : units) {
            reader.scan(unit, null);
        }
        files.close();
    }

    private final class Reader extends TreePathScanner<Void, Element> {
        private final Trees trees;

        Reader(Trees trees) {
            this.trees = trees;
        }

        @Override
        public Void visitMethod(MethodTree method, Element outer) {
            Element here = trees.getElement(getCurrentPath());
            calls.putIfAbsent(here, new LinkedHashSet<>());
            return super.visitMethod(method, here);
        }

        @Override
        public Void visitMethodInvocation(MethodInvocationTree call, Element from) {
            note(from);
            return super.visitMethodInvocation(call, from);
        }

        @Override
        public Void visitNewClass(NewClassTree call, Element from) {
            note(from);
            return super.visitNewClass(call, from);
        }

        private void note(Element from) {
            if (from != null) {
                calls.get(from).add(trees.getElement(getCurrentPath()));
            }
        }
    }

    void check(Check check) {
        check.due("methods were found", calls.size() > 50, true);
        for (Map.Entry<Element, Set<Element>> entry : calls.entrySet()) {
            Element method = entry.getKey();
            if (method.getModifiers().contains(Modifier.PUBLIC)) {
                List<Element> deepest = new ArrayList<>();
                walk(method, new ArrayList<>(), deepest);
                check.due(deepest + " is at most eight deep", deepest.size() <= DEEPEST, true);
            }
            String name = method.getSimpleName().toString();
            check.due(name + " calls itself", reaches(method, method, new LinkedHashSet<>()), MAY_RECUR.contains(name));
            for (Element called : entry.getValue()) {
                String whole = called.getEnclosingElement() + "." + called.getSimpleName();
                check.due(name + " may call " + whole, calls.containsKey(called) || MAY_BE_CALLED.contains(whole)
                    || whole.startsWith("TreeTables."), true);
            }
        }
    }

    /** Keeps in deepest the longest chain that goes through no method twice. */
    private void walk(Element method, List<Element> chain, List<Element> deepest) {
        if (chain.contains(method)) {
            return;
        }
        chain.add(method);
        if (chain.size() > deepest.size()) {
            deepest.clear();
            deepest.addAll(chain);
        }
        for (Element called : calls.getOrDefault(method, Set.of())) {
            walk(called, chain, deepest);
        }
        chain.remove(chain.size() - 1);
    }

    private boolean reaches(Element from, Element wanted, Set<Element> seen) {
        for (Element called : calls.getOrDefault(from, Set.of())) {
            if (called.equals(wanted) || seen.add(called) && reaches(called, wanted, seen)) {
                return true;
            }
        }
        return false;
    }
}
