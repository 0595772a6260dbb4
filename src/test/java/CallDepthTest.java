import com.sun.source.tree.MethodInvocationTree;
import com.sun.source.tree.MethodTree;
import com.sun.source.tree.NewClassTree;
import com.sun.source.util.JavacTask;
import com.sun.source.util.TreePathScanner;
import com.sun.source.util.Trees;
import java.io.IOException;
import java.nio.file.Path;
import java.util.LinkedHashMap;
import java.util.LinkedHashSet;
import java.util.Map;
import java.util.Set;
import javax.lang.model.element.Element;
import javax.tools.JavaCompiler;
import javax.tools.StandardJavaFileManager;
import javax.tools.ToolProvider;

/** Rules 8 and 11 of LANGUAGE.md: no method comes back to itself, and calls go at most eight deep. */
public final class CallDepthTest {
    private static final Runs RUNS = new Runs();
    private static final int MOST_DEEP = 8;

    // By method of the class: the methods and constructors that it calls, those of the library included.
    private static final Map<Element, Set<Element>> CALLS = new LinkedHashMap<>();

    public static void main(String[] args) throws IOException {
        readCalls();
        RUNS.holds("the methods are found", CALLS.size() > 100);
        for (Element method : CALLS.keySet()) {
            int depth = depth(method, new LinkedHashSet<>());
            RUNS.holds(method + " goes at most eight deep: " + depth, depth <= MOST_DEEP);
        }
        RUNS.end();
    }

    private static void readCalls() throws IOException {
        JavaCompiler compiler = ToolProvider.getSystemJavaCompiler();
        try (StandardJavaFileManager files = compiler.getStandardFileManager(null, null, null)) {
            var source = files.getJavaFileObjects(Path.of("src/main/java/NonogramSolver.java"));
            JavacTask task = (JavacTask) compiler.getTask(null, files, null, null, null, source);
            var units = task.parse();
            task.analyze();
            units.forEach(unit -> new CallReader(Trees.instance(task)).scan(unit, null));
        }
    }

    /** Collects the calls of every method; the first values of fields belong to no method. */
    private static final class CallReader extends TreePathScanner<Void, Element> {
        private final Trees trees;

        CallReader(Trees trees) {
            this.trees = trees;
        }

        @Override
        public Void visitMethod(MethodTree method, Element outer) {
            Element element = trees.getElement(getCurrentPath());
            CALLS.put(element, new LinkedHashSet<>());
            return super.visitMethod(method, element);
        }

        @Override
        public Void visitMethodInvocation(MethodInvocationTree call, Element caller) {
            add(caller);
            return super.visitMethodInvocation(call, caller);
        }

        @Override
        public Void visitNewClass(NewClassTree making, Element caller) {
            add(caller);
            return super.visitNewClass(making, caller);
        }

        private void add(Element caller) {
            if (caller != null) {
                CALLS.get(caller).add(trees.getElement(getCurrentPath()));
            }
        }
    }

    /** The number of methods that stand open at once, the method itself included. */
    private static int depth(Element method, Set<Element> open) {
        if (!open.add(method)) {
            RUNS.holds(method + " comes back to itself", false);
            return 0;
        }
        int deepest = 0;
        for (Element called : CALLS.getOrDefault(method, Set.of())) {
            deepest = Math.max(deepest, depth(called, open));
        }
        open.remove(method);
        return deepest + 1;
    }
}
