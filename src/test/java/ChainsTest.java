import com.sun.source.tree.CompilationUnitTree;
import com.sun.source.tree.MethodInvocationTree;
import com.sun.source.tree.MethodTree;
import com.sun.source.tree.NewClassTree;
import com.sun.source.tree.Tree;
import com.sun.source.util.JavacTask;
import com.sun.source.util.TreePathScanner;
import com.sun.source.util.Trees;
import java.io.IOException;
import java.nio.file.Path;
import java.util.ArrayList;
import java.util.LinkedHashMap;
import java.util.LinkedHashSet;
import java.util.List;
import java.util.Map;
import java.util.Set;
import javax.lang.model.element.Element;
import javax.tools.JavaCompiler;
import javax.tools.StandardJavaFileManager;
import javax.tools.ToolProvider;

/** LANGUAGE.md, rules 8 and 11: no method of the class calls itself over others, and calls go at most eight deep. */
public final class ChainsTest {
    private static final int DEEPEST = 8;
    private final Map<Element, Set<Element>> calls = new LinkedHashMap<>();
    private final Map<Element, List<Element>> longest = new LinkedHashMap<>();
    private final Set<Element> open = new LinkedHashSet<>();
    private int wrong;

    private void must(boolean is, String what) {
        if (!is) {
            wrong++;
            System.out.println("ChainsTest: " + what);
        }
    }

    /** Which methods and constructors each one calls. */
    private final class Calls extends TreePathScanner<Void, Void> {
        private final Trees trees;
        private Element caller;

        Calls(Trees trees) {
            this.trees = trees;
        }

        @Override
        public Void visitMethod(MethodTree method, Void none) {
            Element outer = caller;
            caller = trees.getElement(getCurrentPath());
            calls.putIfAbsent(caller, new LinkedHashSet<>());
            super.visitMethod(method, none);
            caller = outer;
            return null;
        }

        @Override
        public Void visitMethodInvocation(MethodInvocationTree call, Void none) {
            addCall(call);
            return super.visitMethodInvocation(call, none);
        }

        @Override
        public Void visitNewClass(NewClassTree made, Void none) {
            addCall(made);
            return super.visitNewClass(made, none);
        }

        private void addCall(Tree call) {
            Element called = trees.getElement(trees.getPath(getCurrentPath().getCompilationUnit(), call));
            if (caller != null && called != null) {
                calls.get(caller).add(called);
            }
        }
    }

    private void read(Path source) throws IOException {
        JavaCompiler compiler = ToolProvider.getSystemJavaCompiler();
        try (StandardJavaFileManager files = compiler.getStandardFileManager(null, null, null)) {
            JavacTask task = (JavacTask) compiler.getTask(null, files, null, null, null, files.getJavaFileObjects(source));
            for (CompilationUnitTree unit : task.parse()) {
                task.analyze();
                new Calls(Trees.instance(task)).scan(unit, null);
            }
        }
    }

    /** The longest chain of the class's own methods that begins with one; the library's are not looked into. */
    private List<Element> chain(Element method) {
        if (longest.containsKey(method)) {
            return longest.get(method);
        }
        List<Element> best = List.of();
        if (calls.containsKey(method) && open.add(method)) {
            for (Element called : calls.get(method)) {
                must(!open.contains(called), method + " comes back to " + called);
                List<Element> behind = open.contains(called) ? List.of() : chain(called);
                best = behind.size() > best.size() ? behind : best;
            }
            open.remove(method);
            List<Element> whole = new ArrayList<>(List.of(method));
            whole.addAll(best);
            best = whole;
        }
        longest.put(method, best);
        return best;
    }

    public static void main(String[] args) throws IOException {
        ChainsTest test = new ChainsTest();
        test.read(Path.of("src/main/java/Levelhouse.java"));
        int deepest = 0;
        for (Element method : test.calls.keySet()) {
            List<Element> chain = test.chain(method);
            deepest = Math.max(deepest, chain.size());
            test.must(chain.size() <= DEEPEST, "too deep: " + chain);
        }
        test.must(test.calls.size() > 100 && deepest > 4, "the calls were not read");
        System.out.println("ChainsTest: " + test.calls.size() + " methods, calls go " + deepest + " deep, " + test.wrong + " not as due");
        if (test.wrong != 0) {
            System.exit(1);
        }
    }
}
