import com.sun.source.tree.ClassTree;
import com.sun.source.tree.CompilationUnitTree;
import com.sun.source.tree.LineMap;
import com.sun.source.tree.MethodInvocationTree;
import com.sun.source.tree.MethodTree;
import com.sun.source.tree.NewClassTree;
import com.sun.source.tree.Tree;
import com.sun.source.util.JavacTask;
import com.sun.source.util.SourcePositions;
import com.sun.source.util.TreePathScanner;
import com.sun.source.util.Trees;
import java.io.File;
import java.util.ArrayList;
import java.util.HashMap;
import java.util.LinkedHashSet;
import java.util.List;
import java.util.Map;
import java.util.Set;
import javax.lang.model.element.Element;
import javax.tools.JavaCompiler;
import javax.tools.StandardJavaFileManager;
import javax.tools.ToolProvider;

/** Rule 11 of ../shared/LANGUAGE.md, read from the source: short methods, and calls that do not go too deep. */
public final class RuleTests {
    private static final File SOURCE = new File("src/main/java/BreakerTrials.java");
    private static final int MOST_LINES = 60;
    private static final int MOST_DEEP = 8;

    /** What each method of the file calls; a method of the library is none of the keys. */
    private static final class Calls extends TreePathScanner<Void, Element> {
        final Map<Element, Set<Element>> made = new HashMap<>();
        final Trees trees;
        CompilationUnitTree unit;

        Calls(Trees trees) {
            this.trees = trees;
        }

        @Override
        public Void visitMethod(MethodTree method, Element outer) {
            Element self = trees.getElement(getCurrentPath());
            made.computeIfAbsent(self, e -> new LinkedHashSet<>());
            dueLines(method, self);
            return super.visitMethod(method, self);
        }

        @Override
        public Void visitClass(ClassTree one, Element outer) {
            return super.visitClass(one, null);
        }

        @Override
        public Void visitMethodInvocation(MethodInvocationTree call, Element caller) {
            note(caller);
            return super.visitMethodInvocation(call, caller);
        }

        @Override
        public Void visitNewClass(NewClassTree one, Element caller) {
            note(caller);
            return super.visitNewClass(one, caller);
        }

        // Without a caller it stands at a field, and its object is made by a constructor.
        private void note(Element caller) {
            Element called = trees.getElement(getCurrentPath());
            if (caller != null && !called.toString().equals("Object()")) {
                made.get(caller).add(called);
            }
        }

        private void dueLines(Tree method, Element self) {
            SourcePositions positions = trees.getSourcePositions();
            LineMap lines = unit.getLineMap();
            long first = positions.getStartPosition(unit, method);
            long last = positions.getEndPosition(unit, method);
            if (last >= 0 && lines.getLineNumber(last) - lines.getLineNumber(first) >= MOST_LINES) {
                Checks.tellWrong(self + " has more than " + MOST_LINES + " lines");
            }
        }

        int depth(Element method, List<Element> open) {
            if (open.contains(method)) {
                Checks.tellWrong(method + " calls itself");
                return 1;
            }
            int below = 0;
            for (Element called : made.getOrDefault(method, Set.of())) {
                List<Element> more = new ArrayList<>(open);
                more.add(method);
                below = Math.max(below, depth(called, more));
            }
            return below + 1;
        }
    }

    private static Calls read() throws Exception {
        JavaCompiler compiler = ToolProvider.getSystemJavaCompiler();
        try (StandardJavaFileManager files = compiler.getStandardFileManager(null, null, null)) {
            JavacTask task = (JavacTask) compiler.getTask(null, files, null, List.of("-proc:none"), null,
                    files.getJavaFileObjects(SOURCE));
            Calls calls = new Calls(Trees.instance(task));
            Iterable<? extends CompilationUnitTree> units = task.parse();
            task.analyze();
            for (CompilationUnitTree unit : units) {
                calls.unit = unit;
                calls.scan(unit, null);
            }
            return calls;
        }
    }

    public static void main(String[] args) throws Exception {
        Calls calls = read();
        int deepest = 0;
        for (Element method : calls.made.keySet()) {
            int depth = calls.depth(method, List.of());
            deepest = Math.max(deepest, depth);
            if (depth > MOST_DEEP) {
                Checks.tellWrong(method + " goes " + depth + " deep");
            }
        }
        // A reader that finds no calls would find nothing too deep either.
        Checks.due("methods of the file are found", calls.made.size() > 22 && deepest > 2 ? 1 : 0, 1);
        Checks.end("rule 11 holds; the deepest calls go " + deepest + " deep");
    }
}
