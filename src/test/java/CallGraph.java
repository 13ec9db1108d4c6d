import com.sun.source.tree.MethodInvocationTree;
import com.sun.source.tree.MethodTree;
import com.sun.source.tree.NewClassTree;
import com.sun.source.util.TreePathScanner;
import java.util.ArrayList;
import java.util.LinkedHashMap;
import java.util.LinkedHashSet;
import java.util.List;
import java.util.Map;
import java.util.Set;
import javax.lang.model.element.Element;
import javax.lang.model.element.Modifier;

/** Which method calls which: rule 4's library, rule 8's recursion, rule 11's calls of eight deep. */
final class CallGraph {
    private static final int DEEPEST = 8;
    /** The only methods that call one another round and round: down the GROUPS, with the depth as an argument. */
    private static final Set<String> MAY_RECUR = Set.of("writeParts", "writeField", "writeGroup");
    private static final Set<String> MAY_BE_CALLED = Set.of("java.lang.Math.max", "java.lang.Math.abs", "java.util.Arrays.copyOf",
        "java.lang.Object.<init>");

    private final Map<Element, Set<Element>> calls = new LinkedHashMap<>();

    CallGraph(Source source) {
        new Reader(source).scan(source.unit, null);
    }

    private final class Reader extends TreePathScanner<Void, Element> {
        private final Source source;

        Reader(Source source) {
            this.source = source;
        }

        @Override
        public Void visitMethod(MethodTree method, Element outer) {
            Element here = source.trees.getElement(getCurrentPath());
            calls.putIfAbsent(here, new LinkedHashSet<>());
            return super.visitMethod(method, here);
        }

        @Override
        public Void visitMethodInvocation(MethodInvocationTree call, Element from) {
            note(from);
            return super.visitMethodInvocation(call, from);
        }

        @Override
        public Void visitNewClass(NewClassTree call, Element from) {
            note(from);
            return super.visitNewClass(call, from);
        }

        private void note(Element from) {
            if (from != null) {
                calls.get(from).add(source.trees.getElement(getCurrentPath()));
            }
        }
    }

    void check(Check check) {
        check.sentence("rule 4: The library: only what stands here");
        check.due("methods were found", calls.size() > 50, true);
        calls.forEach((method, called) -> called.forEach(one -> checkLibrary(check, method, one)));
        check.sentence("rule 8: Recursion: the depth is carried as an argument");
        for (Element method : calls.keySet()) {
            String name = method.getSimpleName().toString();
            check.due(name + " calls itself", reaches(method, method, new LinkedHashSet<>()), MAY_RECUR.contains(name));
        }
        check.sentence("rule 11: calls that are no recursion go at most eight deep");
        for (Element method : calls.keySet()) {
            if (method.getModifiers().contains(Modifier.PUBLIC)) {
                List<Element> deepest = new ArrayList<>();
                walk(method, new ArrayList<>(), deepest);
                check.due(deepest + " is at most eight deep", deepest.size() <= DEEPEST, true);
            }
        }
    }

    private void checkLibrary(Check check, Element method, Element called) {
        String whole = called.getEnclosingElement() + "." + called.getSimpleName();
        boolean isOwn = calls.containsKey(called) || whole.startsWith("TreeTables.");
        check.due(method.getSimpleName() + " may call " + whole, isOwn || MAY_BE_CALLED.contains(whole), true);
    }

    /** Keeps in deepest the longest chain that goes through no method twice. */
    private void walk(Element method, List<Element> chain, List<Element> deepest) {
        if (chain.contains(method)) {
            return;
        }
        chain.add(method);
        if (chain.size() > deepest.size()) {
            deepest.clear();
            deepest.addAll(chain);
        }
        for (Element called : calls.getOrDefault(method, Set.of())) {
            walk(called, chain, deepest);
        }
        chain.remove(chain.size() - 1);
    }

    private boolean reaches(Element from, Element wanted, Set<Element> seen) {
        for (Element called : calls.getOrDefault(from, Set.of())) {
            if (called.equals(wanted) || seen.add(called) && reaches(called, wanted, seen)) {
                return true;
            }
        }
        return false;
    }
}
