import com.sun.source.tree.CompilationUnitTree;
import com.sun.source.tree.MethodInvocationTree;
import com.sun.source.tree.MethodTree;
import com.sun.source.util.JavacTask;
import com.sun.source.util.SourcePositions;
import com.sun.source.util.TreePathScanner;
import com.sun.source.util.Trees;
import java.io.IOException;
import java.util.ArrayDeque;
import java.util.ArrayList;
import java.util.Deque;
import java.util.List;
import java.util.Map;
import java.util.Set;
import java.util.TreeMap;
import java.util.TreeSet;
import javax.lang.model.element.Element;
import javax.tools.JavaCompiler;
import javax.tools.StandardJavaFileManager;
import javax.tools.ToolProvider;

/** Rule 11 of LANGUAGE.md, as javac itself reads the class: how deep calls go, how long methods are. */
public final class DepthTest {
    private static final String CLASS = "src/main/java/GoodHalfEmpty.java";
    private static final int DEEPEST = 8;
    private static final int LONGEST = 60;
    private static final int MOST_PARAMETERS = 7;

    private static int wrong = 0;

    private static void fault(String what) {
        wrong++;
        System.out.println(what);
    }

    /** What each method calls, by their full names; the library's methods are among them. */
    private static final class Calls extends TreePathScanner<Void, Void> {
        private final Map<String, Set<String>> all = new TreeMap<>();
        private final Trees trees;
        private final CompilationUnitTree unit;
        private String caller = "";

        Calls(Trees trees, CompilationUnitTree unit) {
            this.trees = trees;
            this.unit = unit;
        }

        private String name() {
            Element e = trees.getElement(getCurrentPath());
            return e.getEnclosingElement() + "." + e;
        }

        private long lines(MethodTree method) {
            SourcePositions places = trees.getSourcePositions();
            return unit.getLineMap().getLineNumber(places.getEndPosition(unit, method))
                - unit.getLineMap().getLineNumber(places.getStartPosition(unit, method)) + 1;
        }

        @Override public Void visitMethod(MethodTree method, Void none) {
            String outer = caller;
            caller = name();
            all.put(caller, new TreeSet<>());
            // A constructor that javac adds has no place of its own.
            if (method.getBody() != null && trees.getSourcePositions().getEndPosition(unit, method) >= 0
                && lines(method) > LONGEST) {
                fault(caller + " has " + lines(method) + " lines");
            }
            if (method.getParameters().size() > MOST_PARAMETERS) {
                fault(caller + " takes " + method.getParameters().size() + " parameters");
            }
            super.visitMethod(method, none);
            caller = outer;
            return null;
        }

        @Override public Void visitMethodInvocation(MethodInvocationTree call, Void none) {
            if (!caller.isEmpty()) {
                all.get(caller).add(name());
            }
            return super.visitMethodInvocation(call, none);
        }

        /** The longest way of calls that begins here. */
        private List<String> way(String method, Deque<String> open) {
            List<String> longest = new ArrayList<>();
            if (open.contains(method)) {
                fault(method + " calls itself");
                return longest;
            }
            open.push(method);
            for (String next : all.getOrDefault(method, Set.of())) {
                List<String> way = way(next, open);
                longest = way.size() > longest.size() ? way : longest;
            }
            open.pop();
            longest.add(0, method);
            return longest;
        }
    }

    private static Calls read() throws IOException {
        JavaCompiler javac = ToolProvider.getSystemJavaCompiler();
        StandardJavaFileManager files = javac.getStandardFileManager(null, null, null);
        JavacTask task = (JavacTask) javac.getTask(null, files, null, List.of("-proc:none"), null,
            files.getJavaFileObjects(CLASS));
        CompilationUnitTree unit = task.parse().iterator().next();
        task.analyze();
        Calls calls = new Calls(Trees.instance(task), unit);
        calls.scan(unit, null);
        return calls;
    }

    public static void main(String[] args) throws IOException {
        Calls calls = read();
        int deepest = 0;
        for (String method : calls.all.keySet()) {
            List<String> way = calls.way(method, new ArrayDeque<>());
            deepest = Math.max(deepest, way.size());
            if (way.size() > DEEPEST) {
                fault(way.size() + " deep: " + way);
            }
        }
        if (deepest < 3) {
            fault("no calls were found");
        }
        System.out.println(wrong == 0 ? "calls go " + deepest + " deep at most" : wrong + " wrong");
        if (wrong != 0) {
            System.exit(1);
        }
    }
}
