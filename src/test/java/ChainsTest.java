import com.sun.source.tree.CompilationUnitTree;
import com.sun.source.tree.MethodInvocationTree;
import com.sun.source.tree.MethodTree;
import com.sun.source.tree.NewArrayTree;
import com.sun.source.tree.NewClassTree;
import com.sun.source.util.JavacTask;
import com.sun.source.util.TreePathScanner;
import com.sun.source.util.Trees;
import java.io.IOException;
import java.nio.file.Path;
import java.util.ArrayList;
import java.util.LinkedHashMap;
import java.util.LinkedHashSet;
import java.util.List;
import java.util.Map;
import java.util.Set;
import javax.lang.model.element.Element;
import javax.lang.model.element.ElementKind;
import javax.tools.JavaCompiler;
import javax.tools.StandardJavaFileManager;
import javax.tools.ToolProvider;

/** Rules 8, 11 and 12 of LANGUAGE.md, as the compiler reads the program: which method calls which. */
public final class ChainsTest {
    private static final Due due = new Due("ChainsTest");
    private static final Path PROGRAM = Path.of("src/main/java/TreePlaces.java");
    private static final int DEEPEST = 8;

    /** For each method and constructor of the program: those that it calls, and those of the library. */
    private final Map<Element, Set<Element>> calls = new LinkedHashMap<>();
    private final Set<Element> making = new LinkedHashSet<>();

    public static void main(String[] args) throws IOException {
        ChainsTest test = new ChainsTest();
        test.readProgram();
        due.holds("methods are found", test.calls.size() > 60);
        for (Element method : test.calls.keySet()) {
            test.chains(method, new ArrayList<>());
            due.holds(method + " is no constructor and makes something",
                    method.getKind() == ElementKind.CONSTRUCTOR || !test.making.contains(method));
            for (Element called : test.calls.get(method)) {
                due.holds(method + " makes an object by " + called, called.getKind() != ElementKind.CONSTRUCTOR
                        || method.getKind() == ElementKind.CONSTRUCTOR);
            }
        }
        due.end();
    }

    private void readProgram() throws IOException {
        JavaCompiler compiler = ToolProvider.getSystemJavaCompiler();
        try (StandardJavaFileManager files = compiler.getStandardFileManager(null, null, null)) {
            JavacTask task = (JavacTask) compiler.getTask(null, files, null, List.of("-proc:none"), null,
                    files.getJavaFileObjects(PROGRAM));
            Iterable<? extends CompilationUnitTree> units = task.parse();
            task.analyze();
            for (CompilationUnitTree unit : units) {
                new Reader(Trees.instance(task)).scan(unit, null);
            }
        }
    }

    /** Goes over the program; what is given along is the method that it is in, null in a field. */
    private final class Reader extends TreePathScanner<Void, Element> {
        private final Trees trees;

        Reader(Trees trees) {
            this.trees = trees;
        }

        private Element here() {
            return trees.getElement(getCurrentPath());
        }

        private void called(Element by) {
            if (by != null) {
                calls.get(by).add(here());
            }
        }

        @Override
        public Void visitMethod(MethodTree tree, Element by) {
            calls.put(here(), new LinkedHashSet<>());
            return super.visitMethod(tree, here());
        }

        @Override
        public Void visitMethodInvocation(MethodInvocationTree tree, Element by) {
            called(by);
            return super.visitMethodInvocation(tree, by);
        }

        @Override
        public Void visitNewClass(NewClassTree tree, Element by) {
            called(by);
            return super.visitNewClass(tree, by);
        }

        @Override
        public Void visitNewArray(NewArrayTree tree, Element by) {
            making.add(by);
            return super.visitNewArray(tree, by);
        }
    }

    /** All chains of calls from a method on: none comes back to a method of it, none is too deep. */
    private void chains(Element method, List<Element> above) {
        boolean again = above.contains(method);
        due.holds(method + " calls itself by " + above, !again);
        List<Element> chain = new ArrayList<>(above);
        chain.add(method);
        due.holds("deeper than " + DEEPEST + ": " + chain, chain.size() <= DEEPEST);
        if (!again) {
            for (Element called : calls.getOrDefault(method, Set.of())) {
                chains(called, chain);
            }
        }
    }
}
