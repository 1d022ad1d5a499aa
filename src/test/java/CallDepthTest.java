import com.sun.source.tree.CompilationUnitTree;
import com.sun.source.tree.MethodInvocationTree;
import com.sun.source.tree.MethodTree;
import com.sun.source.tree.NewClassTree;
import com.sun.source.util.JavacTask;
import com.sun.source.util.TreePathScanner;
import com.sun.source.util.Trees;
import java.io.IOException;
import java.nio.file.Paths;
import java.util.HashMap;
import java.util.HashSet;
import java.util.List;
import java.util.Map;
import java.util.Set;
import javax.lang.model.element.Element;
import javax.tools.JavaCompiler;
import javax.tools.StandardJavaFileManager;
import javax.tools.ToolProvider;

/** LANGUAGE.md, rule 11: calls that are no recursion go at most eight deep; a ring of recursion is one of these. */
public final class CallDepthTest {
    private static final int MOST_DEEP = 8;

    /** Of each method of the file those of the file that it calls. */
    private final Map<Element, Set<Element>> calls = new HashMap<>();
    private final Map<Element, Set<Element>> reached = new HashMap<>();
    private final Map<Element, Integer> depths = new HashMap<>();

    private CallDepthTest() {
    }

    public static void main(String[] args) throws IOException {
        new CallDepthTest().go();
        Due.end("CallDepthTest");
    }

    private void go() throws IOException {
        read(System.getProperty("source", "src/main/java/HeatedCode.java"));
        for (Set<Element> called : calls.values()) {
            called.retainAll(calls.keySet());
        }
        int deepest = 0;
        for (Element method : calls.keySet()) {
            deepest = Math.max(deepest, depth(method));
            Due.is("calls from " + named(method) + " go at most eight deep", depth(method) <= MOST_DEEP ? 1 : 0, 1);
        }
        // a reading that finds nothing would find nothing too deep
        Due.is("there are calls within calls", deepest > 2 ? 1 : 0, 1);
        System.out.println("CallDepthTest: the deepest of " + calls.size() + " methods goes " + deepest + " deep");
    }

    private void read(String source) throws IOException {
        JavaCompiler compiler = ToolProvider.getSystemJavaCompiler();
        try (StandardJavaFileManager files = compiler.getStandardFileManager(null, null, null)) {
            JavacTask task = (JavacTask) compiler.getTask(null, files, null, List.of("-proc:none"), null,
                files.getJavaFileObjects(Paths.get(source)));
            Iterable<? extends CompilationUnitTree> units = task.parse();
            task.analyze();
            for (CompilationUnitTree unit : units) {
                new Reader(Trees.instance(task)).scan(unit, null);
            }
        }
    }

    private final class Reader extends TreePathScanner<Void, Element> {
        private final Trees trees;

        Reader(Trees trees) {
            this.trees = trees;
        }

        @Override
        public Void visitMethod(MethodTree tree, Element outer) {
            Element method = trees.getElement(getCurrentPath());
            calls.put(method, new HashSet<>());
            return super.visitMethod(tree, method);
        }

        @Override
        public Void visitMethodInvocation(MethodInvocationTree tree, Element method) {
            add(method);
            return super.visitMethodInvocation(tree, method);
        }

        @Override
        public Void visitNewClass(NewClassTree tree, Element method) {
            add(method);
            return super.visitNewClass(tree, method);
        }

        private void add(Element method) {
            if (method != null) {
                calls.get(method).add(trees.getElement(getCurrentPath()));
            }
        }
    }

    private int depth(Element method) {
        Integer known = depths.get(method);
        if (known != null) {
            return known;
        }
        int below = 0;
        for (Element one : reachedBy(method)) {
            boolean inTheRing = reachedBy(one).contains(method);
            below = Math.max(below, inTheRing ? 0 : depth(one));
        }
        depths.put(method, below + 1);
        return below + 1;
    }

    private Set<Element> reachedBy(Element method) {
        Set<Element> known = reached.get(method);
        if (known == null) {
            known = new HashSet<>();
            collect(method, known);
            reached.put(method, known);
        }
        return known;
    }

    private void collect(Element method, Set<Element> into) {
        for (Element one : calls.get(method)) {
            if (into.add(one)) {
                collect(one, into);
            }
        }
    }

    private static String named(Element method) {
        return method.getEnclosingElement().getSimpleName() + "." + method.getSimpleName();
    }
}
