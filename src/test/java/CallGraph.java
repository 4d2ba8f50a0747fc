import com.sun.source.tree.CompilationUnitTree;
import com.sun.source.tree.MethodInvocationTree;
import com.sun.source.tree.MethodTree;
import com.sun.source.tree.NewClassTree;
import com.sun.source.util.JavacTask;
import com.sun.source.util.TreePathScanner;
import com.sun.source.util.Trees;
import java.io.IOException;
import java.nio.file.Path;
import java.util.ArrayList;
import java.util.List;
import java.util.Map;
import java.util.Set;
import java.util.TreeMap;
import java.util.TreeSet;
import javax.lang.model.element.Element;
import javax.lang.model.element.ExecutableElement;
import javax.tools.JavaCompiler;
import javax.tools.StandardJavaFileManager;
import javax.tools.ToolProvider;

/** Which method of a source calls which, as the compiler sees it: "Class.name(types)". */
final class CallGraph {
    private final Map<String, Set<String>> own = new TreeMap<>();
    private final Set<String> outside = new TreeSet<>();

    CallGraph(Path source) throws IOException {
        JavaCompiler compiler = ToolProvider.getSystemJavaCompiler();
        try (StandardJavaFileManager files = compiler.getStandardFileManager(null, null, null)) {
            JavacTask task = (JavacTask) compiler.getTask(null, files, null, List.of("-proc:none"), null,
                files.getJavaFileObjects(source));
            List<CompilationUnitTree> units = new ArrayList<>();
            task.parse().forEach(units::add);
            task.analyze();
            for (CompilationUnitTree unit : units) {
                new Walk(Trees.instance(task)).scan(unit, null);
            }
        }
        // What is called and has no body here is the library's.
        for (Set<String> called : own.values()) {
            for (String name : called) {
                if (!own.containsKey(name)) {
                    outside.add(name);
                }
            }
        }
    }

    private final class Walk extends TreePathScanner<Void, Void> {
        private final Trees trees;
        private String within;

        Walk(Trees trees) {
            this.trees = trees;
        }

        private String nameOf(Element e) {
            return e.getEnclosingElement().getSimpleName() + "." + e;
        }

        @Override
        public Void visitMethod(MethodTree method, Void nothing) {
            String around = within;
            within = nameOf(trees.getElement(getCurrentPath()));
            own.putIfAbsent(within, new TreeSet<>());
            super.visitMethod(method, nothing);
            within = around;
            return null;
        }

        private void note() {
            Element called = trees.getElement(getCurrentPath());
            if (within != null && called instanceof ExecutableElement) {
                own.get(within).add(nameOf(called));
            }
        }

        @Override
        public Void visitMethodInvocation(MethodInvocationTree call, Void nothing) {
            note();
            return super.visitMethodInvocation(call, nothing);
        }

        @Override
        public Void visitNewClass(NewClassTree made, Void nothing) {
            note();
            return super.visitNewClass(made, nothing);
        }
    }

    Set<String> methods() {
        return own.keySet();
    }

    /** What is called of the library. */
    Set<String> outside() {
        return outside;
    }

    /** The longest row of calls within the source that begins here and has no method twice. */
    List<String> longestFrom(String method) {
        return longest(method, new ArrayList<>());
    }

    private List<String> longest(String method, List<String> open) {
        open.add(method);
        List<String> best = List.of();
        for (String next : own.get(method)) {
            if (own.containsKey(next) && !open.contains(next)) {
                List<String> row = longest(next, open);
                best = row.size() > best.size() ? row : best;
            }
        }
        open.remove(open.size() - 1);
        List<String> whole = new ArrayList<>(List.of(method));
        whole.addAll(best);
        return whole;
    }

    /** Methods that may come to be called again while they are still open. */
    Set<String> recursive() {
        Set<String> found = new TreeSet<>();
        for (String method : own.keySet()) {
            Set<String> reached = new TreeSet<>();
            List<String> todo = new ArrayList<>(own.get(method));
            while (!todo.isEmpty()) {
                String next = todo.remove(todo.size() - 1);
                if (own.containsKey(next) && reached.add(next)) {
                    todo.addAll(own.get(next));
                }
            }
            if (reached.contains(method)) {
                found.add(method);
            }
        }
        return found;
    }
}
