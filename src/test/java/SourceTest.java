import com.sun.source.tree.ClassTree;
import com.sun.source.tree.CompilationUnitTree;
import com.sun.source.tree.DoWhileLoopTree;
import com.sun.source.tree.ExpressionTree;
import com.sun.source.tree.ForLoopTree;
import com.sun.source.tree.MethodInvocationTree;
import com.sun.source.tree.MethodTree;
import com.sun.source.tree.NewClassTree;
import com.sun.source.tree.Tree;
import com.sun.source.tree.VariableTree;
import com.sun.source.tree.WhileLoopTree;
import com.sun.source.util.JavacTask;
import com.sun.source.util.TreePathScanner;
import com.sun.source.util.Trees;
import java.io.IOException;
import java.nio.file.Path;
import java.util.HashMap;
import java.util.HashSet;
import java.util.LinkedHashMap;
import java.util.LinkedHashSet;
import java.util.List;
import java.util.Map;
import java.util.Set;
import javax.lang.model.element.Element;
import javax.lang.model.element.ElementKind;
import javax.lang.model.element.Modifier;
import javax.lang.model.type.ArrayType;
import javax.lang.model.type.TypeKind;
import javax.lang.model.type.TypeMirror;
import javax.tools.JavaCompiler;
import javax.tools.StandardJavaFileManager;
import javax.tools.ToolProvider;

/** The rules of LANGUAGE.md that the compiler's own tree of the source shows: what is called, how deep, which types. */
public final class SourceTest {
    private static final int DEEPEST_CALLS = 8;
    private static final Set<String> LIBRARY = Set.of("java.lang.Math.max", "java.lang.Math.min", "java.lang.Long.bitCount",
            "java.lang.System.arraycopy", "java.lang.String.length", "java.lang.String.charAt", "java.lang.Object.<init>");

    private SourceTest() { }

    public static void main(String[] args) throws IOException {
        JavaCompiler compiler = ToolProvider.getSystemJavaCompiler();
        Path source = Path.of(System.getProperty("source", "src/main/java/TracePackets.java"));
        try (StandardJavaFileManager files = compiler.getStandardFileManager(null, null, null)) {
            JavacTask task = (JavacTask) compiler.getTask(null, files, null, List.of("-proc:none"), null,
                    files.getJavaFileObjects(source));
            Scan scan = new Scan(Trees.instance(task));
            for (CompilationUnitTree unit : task.parse()) {
                Checks.due("one class in the file", 1, unit.getTypeDecls().size());
                Checks.due("no imports", 0, unit.getImports().size());
                task.analyze();
                scan.scan(unit, null);
            }
            calls(scan.calls);
        }
        Checks.close("SourceTest");
    }

    private static void calls(Map<Element, Set<Element>> calls) {
        Checks.due("methods were seen", true, calls.size() > 100);
        Map<Element, Integer> depths = new HashMap<>();
        for (Element method : calls.keySet()) {
            int depth = depthOf(method, calls, depths, new HashSet<>());
            Checks.due("calls from " + nameOf(method) + " go " + depth + " deep", true, depth <= DEEPEST_CALLS);
        }
    }

    /** How many calls stand open at once below a method, itself too; a recursion counts as too deep. */
    private static int depthOf(Element method, Map<Element, Set<Element>> calls, Map<Element, Integer> depths,
            Set<Element> open) {
        if (depths.containsKey(method)) {
            return depths.get(method);
        }
        if (!open.add(method)) {
            Checks.due(nameOf(method) + " calls itself", true, false);
            return DEEPEST_CALLS + 1;
        }
        int deepest = 0;
        for (Element called : calls.getOrDefault(method, Set.of())) {
            deepest = Math.max(deepest, depthOf(called, calls, depths, open));
        }
        open.remove(method);
        depths.put(method, deepest + 1);
        return deepest + 1;
    }

    private static String nameOf(Element method) {
        return method.getEnclosingElement() + "." + method.getSimpleName();
    }

    /** Looks at every declaration, call and loop of the file. */
    private static final class Scan extends TreePathScanner<Void, Void> {
        final Map<Element, Set<Element>> calls = new LinkedHashMap<>();
        private final Trees trees;
        private Element method;

        Scan(Trees trees) {
            this.trees = trees;
        }

        private Element here() {
            return trees.getElement(getCurrentPath());
        }

        @Override
        public Void visitClass(ClassTree tree, Void none) {
            Element type = here();
            boolean outer = type.getSimpleName().contentEquals("TracePackets");
            Checks.due(type + " is static and hidden", true, outer
                    || type.getModifiers().containsAll(Set.of(Modifier.STATIC, Modifier.PRIVATE)));
            Checks.due(type + " stands in the class itself", true, outer
                    || type.getEnclosingElement().getKind() == ElementKind.CLASS);
            return super.visitClass(tree, none);
        }

        @Override
        public Void visitMethod(MethodTree tree, Void none) {
            Element around = method;
            method = here();
            calls.put(method, new LinkedHashSet<>());
            super.visitMethod(tree, none);
            method = around;
            return null;
        }

        @Override
        public Void visitMethodInvocation(MethodInvocationTree tree, Void none) {
            called(here());
            return super.visitMethodInvocation(tree, none);
        }

        @Override
        public Void visitNewClass(NewClassTree tree, Void none) {
            called(here());
            return super.visitNewClass(tree, none);
        }

        private void called(Element what) {
            if (nameOf(what).startsWith("TracePackets")) {
                if (method != null) {
                    calls.get(method).add(what);
                }
                return;
            }
            Checks.due("of the library: " + nameOf(what), true, LIBRARY.contains(nameOf(what)));
        }

        @Override
        public Void visitVariable(VariableTree tree, Void none) {
            Element variable = here();
            Checks.due(variable + " is of a type that may be: " + variable.asType(), true, isPlain(variable.asType()));
            if (variable.getModifiers().contains(Modifier.STATIC)) {
                boolean written = tree.getInitializer() != null
                        && (tree.getInitializer().getKind() != Tree.Kind.NEW_ARRAY || isRowOfNumbers(variable.asType()));
                Checks.due(variable + " is a constant", true, written && variable.getModifiers().contains(Modifier.FINAL));
            }
            return super.visitVariable(tree, none);
        }

        private static boolean isPlain(TypeMirror type) {
            if (type.getKind() == TypeKind.ARRAY) {
                TypeMirror part = ((ArrayType) type).getComponentType();
                return part.getKind().isPrimitive() || part.toString().startsWith("TracePackets.");
            }
            return type.getKind().isPrimitive() || type.toString().equals("java.lang.String")
                    || type.toString().startsWith("TracePackets.");
        }

        private static boolean isRowOfNumbers(TypeMirror type) {
            return Set.of("int[]", "long[]", "char[]", "byte[]").contains(type.toString());
        }

        private void dueBound(ExpressionTree condition) {
            String text = condition == null ? "" : condition.toString();
            Checks.due("a loop of " + nameOf(method) + " has a bound: " + text, true, text.matches(".*[<>].*"));
        }

        @Override
        public Void visitForLoop(ForLoopTree tree, Void none) {
            dueBound(tree.getCondition());
            return super.visitForLoop(tree, none);
        }

        @Override
        public Void visitWhileLoop(WhileLoopTree tree, Void none) {
            dueBound(tree.getCondition());
            return super.visitWhileLoop(tree, none);
        }

        @Override
        public Void visitDoWhileLoop(DoWhileLoopTree tree, Void none) {
            dueBound(tree.getCondition());
            return super.visitDoWhileLoop(tree, none);
        }
    }
}
