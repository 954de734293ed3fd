import com.sun.source.tree.CompilationUnitTree;
import com.sun.source.tree.MethodInvocationTree;
import com.sun.source.tree.MethodTree;
import com.sun.source.tree.NewClassTree;
import com.sun.source.tree.VariableTree;
import com.sun.source.util.JavacTask;
import com.sun.source.util.TreePathScanner;
import com.sun.source.util.Trees;
import java.io.IOException;
import java.nio.file.Path;
import java.util.ArrayList;
import java.util.LinkedHashMap;
import java.util.LinkedHashSet;
import java.util.List;
import java.util.Map;
import java.util.Set;
import javax.lang.model.element.Element;
import javax.lang.model.element.ElementKind;
import javax.lang.model.element.Modifier;
import javax.tools.JavaCompiler;
import javax.tools.StandardJavaFileManager;
import javax.tools.ToolProvider;

/** How deep calls go (LANGUAGE.md, rules 8 and 11): eight at most, the library's own included; one method alone calls itself. */
public final class DepthTest {
    private static final Due DUE = new Due();
    private static final int DEEPEST = 8;
    private static final Set<String> CALL_THEMSELVES = Set.of("Desk.searchFrom");

    private final Map<String, Set<String>> calls = new LinkedHashMap<>();
    private final Map<String, Integer> fields = new LinkedHashMap<>();
    private final Map<String, Integer> depths = new LinkedHashMap<>();
    private final List<String> open = new ArrayList<>();

    public static void main(String[] args) throws IOException {
        DepthTest test = new DepthTest();
        test.look();
        DUE.about("rules 8 and 11");
        for (String method : test.calls.keySet()) {
            int depth = test.depthOf(method);
            DUE.is(method + " goes " + depth + " deep", Math.max(depth, DEEPEST), DEEPEST);
        }
        DUE.is("the deepest of all is found", test.depthOf("NonsenseRows.spread"), DEEPEST);
        for (String name : test.fields.keySet()) {
            DUE.is(name + " has " + test.fields.get(name) + " fields", Math.max(test.fields.get(name), 20), 20);
        }
        DUE.end("DepthTest");
    }

    private void look() throws IOException {
        JavaCompiler compiler = ToolProvider.getSystemJavaCompiler();
        StandardJavaFileManager files = compiler.getStandardFileManager(null, null, null);
        JavacTask task = (JavacTask) compiler.getTask(null, files, null, List.of("-proc:none"), null,
            files.getJavaFileObjects(Path.of("src/main/java/NonsenseRows.java")));
        Iterable<? extends CompilationUnitTree> units = task.parse();
        task.analyze();
        Trees trees = Trees.instance(task);
        for (CompilationUnitTree unit : units) {
            new Scanner(trees).scan(unit, null);
        }
    }

    private int depthOf(String method) {
        if (open.contains(method)) {
            DUE.is(method + " calls itself", CALL_THEMSELVES.contains(method) && open.indexOf(method) == open.size() - 1 ? 1 : 0, 1);
            return 0;
        }
        if (!depths.containsKey(method)) {
            open.add(method);
            int deepest = 0;
            for (String called : calls.getOrDefault(method, Set.of())) {
                deepest = Math.max(deepest, depthOf(called));
            }
            open.remove(method);
            depths.put(method, deepest + 1);
        }
        return depths.get(method);
    }

    private final class Scanner extends TreePathScanner<Void, Void> {
        private final Trees trees;
        private String within = "";

        Scanner(Trees trees) {
            this.trees = trees;
        }

        @Override
        public Void visitMethod(MethodTree method, Void nothing) {
            String outer = within;
            within = nameOf(trees.getElement(getCurrentPath()));
            calls.computeIfAbsent(within, name -> new LinkedHashSet<>());
            super.visitMethod(method, nothing);
            within = outer;
            return null;
        }

        @Override
        public Void visitVariable(VariableTree variable, Void nothing) {
            Element element = trees.getElement(getCurrentPath());
            if (element == null || element.getKind() != ElementKind.FIELD) {
                return super.visitVariable(variable, nothing);
            }
            // What makes a field's first value is done by the constructor.
            String name = element.getEnclosingElement().getSimpleName().toString();
            if (!element.getModifiers().contains(Modifier.STATIC)) {
                fields.merge(name, 1, Integer::sum);
            }
            within = name + ".<init>";
            calls.computeIfAbsent(within, made -> new LinkedHashSet<>());
            super.visitVariable(variable, nothing);
            within = "";
            return null;
        }

        @Override
        public Void visitMethodInvocation(MethodInvocationTree call, Void nothing) {
            add();
            return super.visitMethodInvocation(call, nothing);
        }

        @Override
        public Void visitNewClass(NewClassTree made, Void nothing) {
            add();
            return super.visitNewClass(made, nothing);
        }

        private void add() {
            String name = nameOf(trees.getElement(getCurrentPath()));
            if (!within.isEmpty() && !name.equals("Object.<init>")) {
                calls.get(within).add(name);
            }
        }

        private String nameOf(Element element) {
            return element.getEnclosingElement().getSimpleName() + "." + element.getSimpleName();
        }
    }
}
