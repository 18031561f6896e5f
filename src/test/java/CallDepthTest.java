import com.sun.source.tree.CompilationUnitTree;
import com.sun.source.tree.MethodInvocationTree;
import com.sun.source.tree.MethodTree;
import com.sun.source.tree.NewClassTree;
import com.sun.source.tree.Tree;
import com.sun.source.util.JavacTask;
import com.sun.source.util.TreePath;
import com.sun.source.util.TreePathScanner;
import com.sun.source.util.Trees;
import java.io.IOException;
import java.nio.file.Path;
import java.util.ArrayList;
import java.util.HashSet;
import java.util.LinkedHashMap;
import java.util.List;
import java.util.Map;
import java.util.Set;
import javax.lang.model.element.Element;
import javax.tools.JavaCompiler;
import javax.tools.StandardJavaFileManager;
import javax.tools.ToolProvider;

/** Rule 11 of LANGUAGE.md: calls that are no recursion go at most eight deep; and nothing in the class is recursive. */
final class CallDepthTest {
    private static final int DEEPEST = 8;
    private static final Checks CHECKS = new Checks("CallDepthTest");

    /** The methods and constructors of the file, and which of them each one calls. */
    private final Map<Element, Set<Element>> calls = new LinkedHashMap<>();
    private final Map<Element, List<Element>> deepest = new LinkedHashMap<>();

    public static void main(String[] args) throws IOException {
        CallDepthTest test = new CallDepthTest();
        test.readCalls(Path.of(args[0]));
        CHECKS.due("there are methods", test.calls.size() > 32, true);
        for (Element method : test.calls.keySet()) {
            List<Element> chain = test.chainFrom(method, new HashSet<>());
            CHECKS.due("at most " + DEEPEST + " deep: " + chain, chain.size() <= DEEPEST, true);
        }
        CHECKS.end();
    }

    private void readCalls(Path file) throws IOException {
        JavaCompiler compiler = ToolProvider.getSystemJavaCompiler();
        StandardJavaFileManager files = compiler.getStandardFileManager(null, null, null);
        JavacTask task = (JavacTask) compiler.getTask(null, files, null, List.of("-proc:none"), null, files.getJavaFileObjects(file));
        Iterable<? extends CompilationUnitTree> units = task.parse();
        task.analyze();
        Trees trees = Trees.instance(task);
        for (CompilationUnitTree unit : units) {
            new CallReader(trees).scan(unit, null);
        }
    }

    private List<Element> chainFrom(Element method, Set<Element> open) {
        List<Element> known = deepest.get(method);
        if (known != null) {
            return known;
        }
        open.add(method);
        List<Element> longest = List.of();
        for (Element called : calls.get(method)) {
            CHECKS.due("a call from " + method + " back to " + called, open.contains(called), false);
            if (calls.containsKey(called) && !open.contains(called)) {
                List<Element> chain = chainFrom(called, open);
                longest = chain.size() > longest.size() ? chain : longest;
            }
        }
        open.remove(method);
        List<Element> whole = new ArrayList<>(List.of(method));
        whole.addAll(longest);
        deepest.put(method, whole);
        return whole;
    }

    private final class CallReader extends TreePathScanner<Void, Void> {
        private final Trees trees;
        private Set<Element> called = new HashSet<>();

        CallReader(Trees trees) {
            this.trees = trees;
        }

        @Override
        public Void visitMethod(MethodTree method, Void nothing) {
            called = new HashSet<>();
            calls.put(trees.getElement(getCurrentPath()), called);
            return super.visitMethod(method, nothing);
        }

        @Override
        public Void visitMethodInvocation(MethodInvocationTree call, Void nothing) {
            note(call.getMethodSelect());
            return super.visitMethodInvocation(call, nothing);
        }

        @Override
        public Void visitNewClass(NewClassTree made, Void nothing) {
            called.add(trees.getElement(getCurrentPath()));
            return super.visitNewClass(made, nothing);
        }

        private void note(Tree method) {
            called.add(trees.getElement(new TreePath(getCurrentPath(), method)));
        }
    }
}
