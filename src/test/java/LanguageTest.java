import com.sun.source.tree.BinaryTree;
import com.sun.source.tree.BlockTree;
import com.sun.source.tree.ClassTree;
import com.sun.source.tree.DoWhileLoopTree;
import com.sun.source.tree.ExpressionTree;
import com.sun.source.tree.ForLoopTree;
import com.sun.source.tree.ImportTree;
import com.sun.source.tree.MethodTree;
import com.sun.source.tree.NewClassTree;
import com.sun.source.tree.Tree;
import com.sun.source.tree.TypeCastTree;
import com.sun.source.tree.VariableTree;
import com.sun.source.tree.WhileLoopTree;
import com.sun.source.util.TreePath;
import com.sun.source.util.TreePathScanner;
import com.sun.source.util.TreeScanner;
import java.util.ArrayList;
import java.util.EnumSet;
import java.util.LinkedHashMap;
import java.util.LinkedHashSet;
import java.util.List;
import java.util.Map;
import java.util.Set;
import javax.lang.model.element.Modifier;

/** The rules of LANGUAGE.md that can be seen in the source; FaceTest has rule 1, RoomTest what rule 12 says of room. */
public final class LanguageTest {
    private static final Check CHECK = new Check("LanguageTest");
    private static final Source SOURCE = read();
    /** What rule 3 lets in, but for what the class has no use for: texts, lists, doubles. */
    private static final Set<String> PLAIN_TYPES = Set.of("int", "long", "byte", "boolean");
    private static final EnumSet<Tree.Kind> OUT_BY_RULE_2 = EnumSet.of(Tree.Kind.LAMBDA_EXPRESSION, Tree.Kind.MEMBER_REFERENCE);
    private static final EnumSet<Tree.Kind> OUT_BY_RULE_6 = EnumSet.of(Tree.Kind.THROW, Tree.Kind.TRY, Tree.Kind.CATCH, Tree.Kind.SYNCHRONIZED,
        Tree.Kind.ASSERT);
    private static final EnumSet<Tree.Kind> COMPARISONS = EnumSet.of(Tree.Kind.LESS_THAN, Tree.Kind.LESS_THAN_EQUAL, Tree.Kind.GREATER_THAN,
        Tree.Kind.GREATER_THAN_EQUAL);
    private static final EnumSet<Tree.Kind> LOOPS = EnumSet.of(Tree.Kind.FOR_LOOP, Tree.Kind.ENHANCED_FOR_LOOP, Tree.Kind.WHILE_LOOP,
        Tree.Kind.DO_WHILE_LOOP);

    private final Map<Tree, TreePath> all = new LinkedHashMap<>();
    private final Set<String> ownClasses = new LinkedHashSet<>();

    public static void main(String[] args) {
        LanguageTest test = new LanguageTest();
        test.collect();
        test.classes();
        test.types();
        test.statics();
        test.outOfTheLanguage();
        test.loops();
        test.lengths();
        test.objects();
        test.imports();
        new CallGraph(SOURCE).check(CHECK);
        CHECK.finish();
    }

    private static Source read() {
        try {
            return new Source("src/main/java/TreeTables.java");
        } catch (Exception e) {
            throw new IllegalStateException("no source to read", e);
        }
    }

    private void collect() {
        new TreePathScanner<Void, Void>() {
            @Override
            public Void scan(Tree tree, Void none) {
                if (tree != null) {
                    all.put(tree, getCurrentPath() == null ? null : new TreePath(getCurrentPath(), tree));
                }
                return super.scan(tree, none);
            }
        }.scan(new TreePath(SOURCE.unit), null);
        for (ClassTree one : allOf(ClassTree.class)) {
            ownClasses.add(one.getSimpleName().toString());
        }
    }

    private <T extends Tree> List<T> allOf(Class<T> type) {
        List<T> found = new ArrayList<>();
        for (Tree tree : all.keySet()) {
            if (type.isInstance(tree)) {
                found.add(type.cast(tree));
            }
        }
        return found;
    }

    private long lineOf(long position) {
        return SOURCE.unit.getLineMap().getLineNumber(position);
    }

    private long firstLine(Tree tree) {
        return lineOf(SOURCE.trees.getSourcePositions().getStartPosition(SOURCE.unit, tree));
    }

    private long lastLine(Tree tree) {
        return lineOf(SOURCE.trees.getSourcePositions().getEndPosition(SOURCE.unit, tree));
    }

    private Tree parentOf(Tree tree) {
        TreePath path = all.get(tree);
        return path == null || path.getParentPath() == null ? null : path.getParentPath().getLeaf();
    }

    private void absent(Set<Tree.Kind> kinds) {
        for (Tree tree : all.keySet()) {
            CHECK.due("line " + firstLine(tree) + " has a " + tree.getKind(), kinds.contains(tree.getKind()), false);
        }
    }

    private void classes() {
        CHECK.sentence("rule 2: static nested classes; no local or anonymous class, no lambda, no method reference");
        for (ClassTree one : allOf(ClassTree.class)) {
            boolean isOuter = parentOf(one) == SOURCE.unit;
            boolean isNested = parentOf(one) instanceof ClassTree && one.getModifiers().getFlags().contains(Modifier.STATIC);
            CHECK.due(one.getSimpleName() + " is the class itself or static inside it", isOuter || isNested, true);
        }
        for (NewClassTree made : allOf(NewClassTree.class)) {
            CHECK.due("line " + firstLine(made) + " makes an anonymous class", made.getClassBody() != null, false);
        }
        absent(OUT_BY_RULE_2);
        CHECK.sentence("one file, without a package line");
        CHECK.due("a package line", SOURCE.unit.getPackage() != null, false);
        CHECK.due("outermost classes of the file", SOURCE.unit.getTypeDecls().size(), 1);
    }

    private void types() {
        CHECK.sentence("rule 3: Types; arrays of one dimension");
        for (VariableTree one : allOf(VariableTree.class)) {
            String type = one.getType() == null ? "var" : one.getType().toString();
            String plain = type.endsWith("[]") ? type.substring(0, type.length() - 2) : type;
            CHECK.due(one.getName() + " is of a type that rule 3 lets in: " + type, PLAIN_TYPES.contains(plain) || ownClasses.contains(plain), true);
        }
    }

    private void statics() {
        CHECK.sentence("rule 5: Static fields are final: constants of int, long; no static initialiser block");
        for (ClassTree one : allOf(ClassTree.class)) {
            for (Tree member : one.getMembers()) {
                CHECK.due("line " + firstLine(member) + " is a block", member instanceof BlockTree, false);
                if (member instanceof VariableTree field && field.getModifiers().getFlags().contains(Modifier.STATIC)) {
                    CHECK.due(field.getName() + " is final", field.getModifiers().getFlags().contains(Modifier.FINAL), true);
                    CHECK.due(field.getName() + " is a number", Set.of("int", "long").contains(field.getType().toString()), true);
                }
            }
        }
    }

    private void outOfTheLanguage() {
        CHECK.sentence("rule 6: No throw, try, catch, synchronized, assert, switch with patterns; a cast only behind the test that makes it safe");
        absent(OUT_BY_RULE_6);
        for (TypeCastTree cast : allOf(TypeCastTree.class)) {
            CHECK.due("line " + firstLine(cast) + " casts to a number", PLAIN_TYPES.contains(cast.getType().toString()), true);
        }
        CHECK.sentence("rule 10: joining texts by StringBuilder, not by + (there are no texts to join)");
        absent(EnumSet.of(Tree.Kind.STRING_LITERAL));
    }

    private void loops() {
        CHECK.sentence("rule 9: Every loop has an end that can be seen from its own lines");
        for (ForLoopTree loop : allOf(ForLoopTree.class)) {
            dueBound(loop, loop.getCondition());
            CHECK.due("the loop in line " + firstLine(loop) + " counts", loop.getUpdate().size(), 1);
        }
        for (WhileLoopTree loop : allOf(WhileLoopTree.class)) {
            dueBound(loop, loop.getCondition());
        }
        for (DoWhileLoopTree loop : allOf(DoWhileLoopTree.class)) {
            dueBound(loop, loop.getCondition());
        }
    }

    private void dueBound(Tree loop, ExpressionTree condition) {
        List<Tree> found = new ArrayList<>();
        new TreeScanner<Void, Void>() {
            @Override
            public Void visitBinary(BinaryTree tree, Void none) {
                if (COMPARISONS.contains(tree.getKind())) {
                    found.add(tree);
                }
                // A bound behind || would not end the loop.
                return tree.getKind() == Tree.Kind.CONDITIONAL_OR ? null : super.visitBinary(tree, none);
            }
        }.scan(condition, null);
        CHECK.due("the loop in line " + firstLine(loop) + " has a bound", found.isEmpty(), false);
    }

    private void lengths() {
        CHECK.sentence("rule 11: at most seven parameters; methods stay short (some sixty lines)");
        for (MethodTree method : allOf(MethodTree.class)) {
            CHECK.due(method.getName() + " has at most seven parameters", method.getParameters().size() <= 7, true);
            CHECK.due(method.getName() + " is short", lastLine(method) - firstLine(method) < 60, true);
        }
        CHECK.sentence("rule 11: at most some twelve classes, and a class some twenty fields beside its constants");
        CHECK.due("at most twelve classes", ownClasses.size() <= 12, true);
        for (ClassTree one : allOf(ClassTree.class)) {
            int fields = 0;
            for (Tree member : one.getMembers()) {
                boolean isField = member instanceof VariableTree;
                fields += isField && !((VariableTree) member).getModifiers().getFlags().contains(Modifier.STATIC) ? 1 : 0;
            }
            CHECK.due(one.getSimpleName() + " has at most twenty fields", fields <= 20, true);
        }
    }

    private void objects() {
        CHECK.sentence("rule 12: An object may be made by any method, and none in a loop without a bound");
        for (Tree tree : all.keySet()) {
            if (tree.getKind() == Tree.Kind.NEW_CLASS || tree.getKind() == Tree.Kind.NEW_ARRAY) {
                boolean inLoop = false;
                String method = "";
                for (TreePath path = all.get(tree); path != null; path = path.getParentPath()) {
                    inLoop |= LOOPS.contains(path.getLeaf().getKind());
                    method = path.getLeaf() instanceof MethodTree one ? one.getName().toString() : method;
                }
                CHECK.due("line " + firstLine(tree) + " makes objects in a loop", inLoop && !method.equals("<init>"), false);
            }
        }
    }

    private void imports() {
        CHECK.sentence("rule 13: No clock, no randomness, no file, network, thread or environment");
        for (ImportTree one : allOf(ImportTree.class)) {
            CHECK.due("the import", one.getQualifiedIdentifier().toString(), "java.util.Arrays");
        }
    }
}
