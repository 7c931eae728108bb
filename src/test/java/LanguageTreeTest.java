import com.sun.source.tree.BinaryTree;
import com.sun.source.tree.CompilationUnitTree;
import com.sun.source.tree.LiteralTree;
import com.sun.source.tree.MethodInvocationTree;
import com.sun.source.tree.MethodTree;
import com.sun.source.tree.NewArrayTree;
import com.sun.source.tree.NewClassTree;
import com.sun.source.tree.PrimitiveTypeTree;
import com.sun.source.tree.ThrowTree;
import com.sun.source.tree.Tree;
import com.sun.source.tree.TypeCastTree;
import com.sun.source.util.JavacTask;
import com.sun.source.util.TreePathScanner;
import com.sun.source.util.Trees;
import java.io.IOException;
import java.nio.file.Path;
import java.util.ArrayDeque;
import java.util.Deque;
import java.util.HashMap;
import java.util.LinkedHashSet;
import java.util.Map;
import java.util.Set;
import javax.lang.model.element.Element;
import javax.lang.model.element.ElementKind;
import javax.lang.model.element.Modifier;
import javax.lang.model.type.TypeKind;
import javax.tools.JavaCompiler;
import javax.tools.StandardJavaFileManager;
import javax.tools.ToolProvider;

/**
 * Those rules of LANGUAGE.md for which the program's text must be understood: the library
 * (rule 4), divisors and casts (7), the depth of calls (11) and what is made where (12).
 * It runs in the project's folder.
 */
public final class LanguageTreeTest {
    private static final Path PROGRAM = Path.of("src/main/java/DewPond.java");
    private static final int DEEPEST = 8;
    private static final Set<String> LIBRARY = Set.of(
        "java.lang.Math.min", "java.lang.Math.max", "java.lang.Math.abs", "java.lang.Math.floorMod",
        "java.lang.Object.<init>", "java.lang.IllegalArgumentException.<init>",
        "java.lang.IllegalStateException.<init>", "java.lang.IndexOutOfBoundsException.<init>");

    public static void main(String[] args) throws IOException {
        JavaCompiler compiler = ToolProvider.getSystemJavaCompiler();
        try (StandardJavaFileManager files = compiler.getStandardFileManager(null, null, null)) {
            JavacTask task = (JavacTask) compiler.getTask(null, files, null, null, null,
                    files.getJavaFileObjects(PROGRAM));
            Iterable<? extends CompilationUnitTree> units = task.parse();
            task.analyze();
            Reader reader = new Reader(Trees.instance(task));
            reader.scan(units, null);
            depths(reader.calls);
        }
        Check.end();
    }

    private static void depths(Map<Element, Set<Element>> calls) {
        int deepest = 0;
        for (Element method : calls.keySet()) {
            if (method.getModifiers().contains(Modifier.PUBLIC)) {
                int depth = depth(method, calls, new ArrayDeque<>());
                Check.due(method + " goes " + depth + " calls deep, at most " + DEEPEST, depth <= DEEPEST, true);
                deepest = Math.max(deepest, depth);
            }
        }
        Check.due("the calls were read", deepest > 3, true);
    }

    private static int depth(Element method, Map<Element, Set<Element>> calls, Deque<Element> open) {
        if (open.contains(method)) {
            Check.fault(method + " calls itself by " + open);
            return 0;
        }
        open.push(method);
        int deepest = 0;
        for (Element called : calls.getOrDefault(method, Set.of())) {
            deepest = Math.max(deepest, depth(called, calls, open));
        }
        open.pop();
        return deepest + 1;
    }

    private static final class Reader extends TreePathScanner<Void, Void> {
        final Map<Element, Set<Element>> calls = new HashMap<>();
        private final Trees trees;
        private Element method;

        Reader(Trees trees) {
            this.trees = trees;
        }

        @Override
        public Void visitMethod(MethodTree tree, Void none) {
            method = trees.getElement(getCurrentPath());
            calls.put(method, new LinkedHashSet<>());
            super.visitMethod(tree, none);
            method = null;
            return null;
        }

        @Override
        public Void visitMethodInvocation(MethodInvocationTree tree, Void none) {
            called();
            return super.visitMethodInvocation(tree, none);
        }

        @Override
        public Void visitNewClass(NewClassTree tree, Void none) {
            called();
            boolean isThrown = getCurrentPath().getParentPath().getLeaf() instanceof ThrowTree;
            Check.due(tree + " is made in a constructor, or thrown", isThrown != isInConstructor(), true);
            return super.visitNewClass(tree, none);
        }

        @Override
        public Void visitNewArray(NewArrayTree tree, Void none) {
            Check.due(tree + " is made in a constructor", isInConstructor(), true);
            return super.visitNewArray(tree, none);
        }

        @Override
        public Void visitBinary(BinaryTree tree, Void none) {
            boolean divides = tree.getKind() == Tree.Kind.DIVIDE || tree.getKind() == Tree.Kind.REMAINDER;
            if (divides && trees.getTypeMirror(getCurrentPath()).getKind() != TypeKind.DOUBLE) {
                Check.due(tree + " has a written divisor", isWrittenNumber(tree.getRightOperand()), true);
            }
            return super.visitBinary(tree, none);
        }

        @Override
        public Void visitTypeCast(TypeCastTree tree, Void none) {
            Check.due(tree + " casts a number", tree.getType() instanceof PrimitiveTypeTree, true);
            return super.visitTypeCast(tree, none);
        }

        private void called() {
            Element callee = trees.getElement(getCurrentPath());
            Element owner = callee.getEnclosingElement();
            String name = owner + "." + callee.getSimpleName();
            boolean isOwn = owner.toString().equals("DewPond") || owner.toString().startsWith("DewPond.");
            Check.due(name + " is the program's own, or of the library", isOwn || LIBRARY.contains(name), true);
            if (method == null) {
                Check.fault(name + " is called outside of a method");
            } else {
                calls.get(method).add(callee);
            }
        }

        private boolean isInConstructor() {
            return method != null && method.getKind() == ElementKind.CONSTRUCTOR;
        }

        private static boolean isWrittenNumber(Tree divisor) {
            return divisor instanceof LiteralTree
                    && ((LiteralTree) divisor).getValue() instanceof Integer
                    && (Integer) ((LiteralTree) divisor).getValue() != 0;
        }
    }
}
