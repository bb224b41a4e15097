import com.sun.source.tree.CompilationUnitTree;
import com.sun.source.tree.DoWhileLoopTree;
import com.sun.source.tree.ForLoopTree;
import com.sun.source.tree.LiteralTree;
import com.sun.source.tree.MemberSelectTree;
import com.sun.source.tree.MethodInvocationTree;
import com.sun.source.tree.MethodTree;
import com.sun.source.tree.NewClassTree;
import com.sun.source.tree.Tree;
import com.sun.source.tree.WhileLoopTree;
import com.sun.source.util.JavacTask;
import com.sun.source.util.TreePathScanner;
import com.sun.source.util.Trees;
import java.io.IOException;
import java.nio.file.Path;
import java.util.HashMap;
import java.util.LinkedHashSet;
import java.util.List;
import java.util.Map;
import java.util.Set;
import javax.lang.model.element.Element;
import javax.lang.model.element.ExecutableElement;
import javax.lang.model.element.Modifier;
import javax.lang.model.element.TypeElement;
import javax.tools.JavaCompiler;
import javax.tools.StandardJavaFileManager;
import javax.tools.ToolProvider;

/**
 * Rules 4, 8, 9 and 11 of LANGUAGE.md, as javac reads the class: which functions of the library it calls,
 * that no method comes back to itself, that calls go at most eight deep, and that every loop has a condition.
 */
public final class CallsTest {
    private static final Path SOURCE = Path.of("src/main/java/NobodyChecks.java");
    private static final int MOST_DEEP = 8;
    /** Those of rule 4 that need no list, text or object. */
    private static final Set<String> LIBRARY = Set.of("Object.<init>", "Math.abs", "Math.max", "Math.min", "Math.floorDiv",
        "Math.floorMod", "Integer.bitCount", "Integer.compare", "Integer.max", "Integer.min", "Long.compare", "Long.max",
        "Long.min", "Long.bitCount");

    private final Map<Element, Set<Element>> calls = new HashMap<>();
    /** Calls by 'super', which no other method overrides. */
    private final Map<Element, Set<Element>> supers = new HashMap<>();
    private final Map<Element, Integer> depths = new HashMap<>();
    private final Set<Element> open = new LinkedHashSet<>();
    private JavacTask task;

    public static void main(String[] args) throws IOException {
        new CallsTest().run();
        Due.end();
    }

    private static void holds(String rule, boolean held) {
        Due.due(rule, held ? 1 : 0, 1);
    }

    private void run() throws IOException {
        JavaCompiler compiler = ToolProvider.getSystemJavaCompiler();
        try (StandardJavaFileManager files = compiler.getStandardFileManager(null, null, null)) {
            task = (JavacTask) compiler.getTask(null, files, null, List.of("-proc:none"), null, files.getJavaFileObjects(SOURCE));
            Iterable<? extends CompilationUnitTree> units = task.parse();
            task.analyze();
            for (CompilationUnitTree unit : units) {
                new Reader(Trees.instance(task)).scan(unit, null);
            }
        }
        addOverriding();
        int faces = 0;
        for (Element method : calls.keySet()) {
            boolean isFace = method.getModifiers().contains(Modifier.PUBLIC) && isOwn(method);
            faces += isFace ? 1 : 0;
            int deep = depthOf(method);
            holds(method + " goes " + deep + " deep", deep <= MOST_DEEP);
        }
        Due.due("public methods and the constructor", faces, 28);
    }

    private static boolean isOwn(Element method) {
        return method.getEnclosingElement().toString().equals("NobodyChecks");
    }

    private static boolean isInside(Element method) {
        return method.getEnclosingElement().toString().startsWith("NobodyChecks");
    }

    /** How many calls stand open at most when this one is made, it, too; the library's own are not counted. */
    private int depthOf(Element method) {
        Integer known = depths.get(method);
        if (known != null) {
            return known;
        }
        holds("no recursion: " + open + " to " + method, !open.contains(method));
        if (!open.add(method)) {
            return 0;
        }
        int deepest = 0;
        for (Element called : calls.getOrDefault(method, Set.of())) {
            deepest = Math.max(deepest, depthOf(called));
        }
        open.remove(method);
        depths.put(method, deepest + 1);
        return deepest + 1;
    }

    /** A call of a method may be one of those that override it. */
    private void addOverriding() {
        for (Map.Entry<Element, Set<Element>> entry : calls.entrySet()) {
            Set<Element> more = new LinkedHashSet<>();
            for (Element called : entry.getValue()) {
                for (Element other : calls.keySet()) {
                    boolean isSuper = supers.getOrDefault(entry.getKey(), Set.of()).contains(called);
                    if (!isSuper && task.getElements().overrides((ExecutableElement) other, (ExecutableElement) called,
                            (TypeElement) other.getEnclosingElement())) {
                        more.add(other);
                    }
                }
            }
            entry.getValue().addAll(more);
        }
    }

    /** Reads which method calls which. */
    private final class Reader extends TreePathScanner<Void, Void> {
        private final Trees trees;
        private Element method;

        Reader(Trees trees) {
            this.trees = trees;
        }

        @Override
        public Void visitMethod(MethodTree tree, Void none) {
            method = trees.getElement(getCurrentPath());
            calls.computeIfAbsent(method, each -> new LinkedHashSet<>());
            super.visitMethod(tree, none);
            method = null;
            return null;
        }

        @Override
        public Void visitMethodInvocation(MethodInvocationTree tree, Void none) {
            Element called = trees.getElement(getCurrentPath());
            take(called);
            if (tree.getMethodSelect() instanceof MemberSelectTree select && select.getExpression().toString().equals("super")) {
                supers.computeIfAbsent(method, each -> new LinkedHashSet<>()).add(called);
            }
            return super.visitMethodInvocation(tree, none);
        }

        @Override
        public Void visitNewClass(NewClassTree tree, Void none) {
            take(trees.getElement(getCurrentPath()));
            return super.visitNewClass(tree, none);
        }

        private void take(Element called) {
            if (!isInside(called)) {
                String name = called.getEnclosingElement().getSimpleName() + "." + called.getSimpleName();
                holds("of the library: " + name, LIBRARY.contains(name));
            } else if (method != null) {
                calls.computeIfAbsent(method, each -> new LinkedHashSet<>()).add(called);
            }
        }

        @Override
        public Void visitForLoop(ForLoopTree tree, Void none) {
            holds("a condition and a step: " + tree.getInitializer(), tree.getCondition() != null && !tree.getUpdate().isEmpty());
            return super.visitForLoop(tree, none);
        }

        @Override
        public Void visitWhileLoop(WhileLoopTree tree, Void none) {
            holds("a condition: " + tree.getCondition(), !isConstant(tree.getCondition()));
            return super.visitWhileLoop(tree, none);
        }

        @Override
        public Void visitDoWhileLoop(DoWhileLoopTree tree, Void none) {
            holds("a condition: " + tree.getCondition(), !isConstant(tree.getCondition()));
            return super.visitDoWhileLoop(tree, none);
        }

        private boolean isConstant(Tree condition) {
            return condition instanceof LiteralTree || condition.toString().equals("(true)");
        }
    }
}
