import com.sun.source.tree.ClassTree;
import com.sun.source.tree.CompilationUnitTree;
import com.sun.source.tree.MethodInvocationTree;
import com.sun.source.tree.MethodTree;
import com.sun.source.tree.NewClassTree;
import com.sun.source.util.JavacTask;
import com.sun.source.util.TreePathScanner;
import com.sun.source.util.Trees;
import java.io.IOException;
import java.nio.file.Path;
import java.util.LinkedHashMap;
import java.util.LinkedHashSet;
import java.util.List;
import java.util.Map;
import java.util.Set;
import javax.lang.model.element.Element;
import javax.tools.JavaCompiler;
import javax.tools.StandardJavaFileManager;
import javax.tools.ToolProvider;

/** Rule 11 of ../shared/LANGUAGE.md: no call of the class goes more than eight deep, and none comes back to itself. */
public final class CallDepthTest {
    private static final Path SOURCE = Path.of("src", "main", "java", "LagoonGates.java");
    private static final int MOST_DEEP = 8;

    private static final Due DUE = new Due("CallDepthTest");

    // Which methods and constructors each one calls; those of the library call none.
    private static final Map<Element, Set<Element>> CALLS = new LinkedHashMap<>();

    public static void main(String[] args) throws IOException {
        readCalls();
        DUE.holds("methods were found", CALLS.size() > 50);
        int deepest = 0;
        for (Element method : CALLS.keySet()) {
            int depth = depthOf(method, new LinkedHashSet<>());
            deepest = Math.max(deepest, depth);
            DUE.holds("at most " + MOST_DEEP + " deep: " + method + " goes " + depth, depth <= MOST_DEEP);
        }
        DUE.holds("calls were found", deepest > 3);
        DUE.end();
    }

    private static void readCalls() throws IOException {
        JavaCompiler compiler = ToolProvider.getSystemJavaCompiler();
        try (StandardJavaFileManager files = compiler.getStandardFileManager(null, null, null)) {
            JavacTask task = (JavacTask) compiler.getTask(null, files, null, List.of("-proc:none"), null,
                    files.getJavaFileObjects(SOURCE));
            Iterable<? extends CompilationUnitTree> units = task.parse();
            task.analyze();
            Trees trees = Trees.instance(task);
            for (CompilationUnitTree unit : units) {
                new CallReader(trees).scan(unit, null);
            }
        }
    }

    /** How many calls stand open at once, at most, the method's own among them. */
    private static int depthOf(Element method, Set<Element> open) {
        if (!open.add(method)) {
            DUE.holds("no call comes back to itself: " + method, false);
            return 0;
        }
        int below = 0;
        for (Element called : CALLS.getOrDefault(method, Set.of())) {
            below = Math.max(below, depthOf(called, open));
        }
        open.remove(method);
        return below + 1;
    }

    private static final class CallReader extends TreePathScanner<Void, Void> {
        private final Trees trees;
        private Element caller;

        CallReader(Trees trees) {
            this.trees = trees;
        }

        // The first values of a class's fields are made by its constructor, whatever it is.
        @Override
        public Void visitClass(ClassTree tree, Void nothing) {
            Element outer = caller;
            for (Element member : trees.getElement(getCurrentPath()).getEnclosedElements()) {
                if (member.getSimpleName().contentEquals("<init>")) {
                    caller = member;
                    CALLS.putIfAbsent(caller, new LinkedHashSet<>());
                }
            }
            super.visitClass(tree, nothing);
            caller = outer;
            return nothing;
        }

        @Override
        public Void visitMethod(MethodTree tree, Void nothing) {
            Element outer = caller;
            caller = trees.getElement(getCurrentPath());
            CALLS.putIfAbsent(caller, new LinkedHashSet<>());
            super.visitMethod(tree, nothing);
            caller = outer;
            return nothing;
        }

        @Override
        public Void visitMethodInvocation(MethodInvocationTree tree, Void nothing) {
            CALLS.get(caller).add(trees.getElement(getCurrentPath()));
            return super.visitMethodInvocation(tree, nothing);
        }

        @Override
        public Void visitNewClass(NewClassTree tree, Void nothing) {
            CALLS.get(caller).add(trees.getElement(getCurrentPath()));
            return super.visitNewClass(tree, nothing);
        }
    }
}
