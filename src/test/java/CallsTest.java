import com.sun.source.tree.CompilationUnitTree;
import com.sun.source.tree.MethodInvocationTree;
import com.sun.source.tree.MethodTree;
import com.sun.source.tree.NewArrayTree;
import com.sun.source.tree.NewClassTree;
import com.sun.source.util.JavacTask;
import com.sun.source.util.TreePathScanner;
import com.sun.source.util.Trees;
import java.io.IOException;
import java.nio.file.Path;
import java.util.ArrayDeque;
import java.util.Deque;
import java.util.Map;
import java.util.Set;
import java.util.TreeMap;
import java.util.TreeSet;
import javax.lang.model.element.Element;
import javax.tools.JavaCompiler;
import javax.tools.StandardJavaFileManager;
import javax.tools.ToolProvider;

/** Rules 8, 11 and 12 of LANGUAGE.md as the compiler sees them: who calls whom, how deep, and what is made where. */
public final class CallsTest {
    private static final int MOST_DEEP = 8;
    private static final int MOST_LINES = 60;

    private final Map<String, Set<String>> calls = new TreeMap<>();
    private final Map<String, Integer> depths = new TreeMap<>();
    private int wrong = 0;

    public static void main(String[] args) throws IOException {
        CallsTest test = new CallsTest();
        test.look(Path.of("src/main/java/RerootStore.java"));
        int most = 0;
        for (String method : test.calls.keySet()) {
            int depth = test.depthOf(method, new ArrayDeque<>());
            most = Math.max(most, depth);
            test.check(depth <= MOST_DEEP, method + " goes " + depth + " deep");
        }
        test.check(test.calls.size() > 60, "few methods were seen: " + test.calls.size());
        System.out.println("CallsTest: " + test.calls.size() + " methods, at most " + most + " deep, " + test.wrong + " breaches");
        if (test.wrong != 0) {
            System.exit(1);
        }
    }

    private void check(boolean holds, String breach) {
        if (!holds) {
            wrong++;
            System.out.println(breach);
        }
    }

    private void look(Path source) throws IOException {
        JavaCompiler compiler = ToolProvider.getSystemJavaCompiler();
        StandardJavaFileManager files = compiler.getStandardFileManager(null, null, null);
        JavacTask task = (JavacTask) compiler.getTask(null, files, null, null, null, files.getJavaFileObjects(source));
        Iterable<? extends CompilationUnitTree> units = task.parse();
        task.analyze();
        for (CompilationUnitTree unit : units) {
            new Scanner(Trees.instance(task), unit).scan(unit, null);
        }
    }

    /** The name of the method that is looked at goes along; null in a field's initialiser. */
    private final class Scanner extends TreePathScanner<Void, String> {
        private final Trees trees;
        private final CompilationUnitTree unit;

        Scanner(Trees trees, CompilationUnitTree unit) {
            this.trees = trees;
            this.unit = unit;
        }

        private String nameHere() {
            Element element = trees.getElement(getCurrentPath());
            return element.getEnclosingElement().getSimpleName() + "." + element;
        }

        private long line(long position) {
            return unit.getLineMap().getLineNumber(position);
        }

        @Override
        public Void visitMethod(MethodTree method, String outer) {
            String name = nameHere();
            calls.putIfAbsent(name, new TreeSet<>());
            long start = trees.getSourcePositions().getStartPosition(unit, method);
            long end = trees.getSourcePositions().getEndPosition(unit, method);
            check(end < 0 || line(end) - line(start) < MOST_LINES, "a long method: " + name);
            check(method.getParameters().size() <= 7, "many parameters: " + name);
            return super.visitMethod(method, name);
        }

        @Override
        public Void visitMethodInvocation(MethodInvocationTree call, String caller) {
            if (caller != null) {
                calls.get(caller).add(nameHere());
            }
            return super.visitMethodInvocation(call, caller);
        }

        @Override
        public Void visitNewClass(NewClassTree made, String maker) {
            checkMaker(maker);
            return super.visitNewClass(made, maker);
        }

        @Override
        public Void visitNewArray(NewArrayTree made, String maker) {
            checkMaker(maker);
            return super.visitNewArray(made, maker);
        }

        /** A constructor bears its class's name; no other method makes anything. */
        private void checkMaker(String maker) {
            check(maker == null || maker.matches("(\\w+)\\.\\1\\(.*"), "made outside a constructor: " + maker);
        }
    }

    private int depthOf(String method, Deque<String> open) {
        if (!calls.containsKey(method)) {
            return 0;
        }
        if (depths.containsKey(method)) {
            return depths.get(method);
        }
        check(!open.contains(method), "a recursion: " + method + " in " + open);
        if (open.contains(method)) {
            return 0;
        }
        open.push(method);
        int deepest = 0;
        for (String called : calls.get(method)) {
            deepest = Math.max(deepest, depthOf(called, open));
        }
        open.pop();
        depths.put(method, deepest + 1);
        return deepest + 1;
    }
}
