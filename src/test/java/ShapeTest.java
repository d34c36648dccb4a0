import com.sun.source.tree.AssignmentTree;
import com.sun.source.tree.BinaryTree;
import com.sun.source.tree.CompilationUnitTree;
import com.sun.source.tree.DoWhileLoopTree;
import com.sun.source.tree.ExpressionTree;
import com.sun.source.tree.ForLoopTree;
import com.sun.source.tree.IdentifierTree;
import com.sun.source.tree.LiteralTree;
import com.sun.source.tree.MethodInvocationTree;
import com.sun.source.tree.MethodTree;
import com.sun.source.tree.NewArrayTree;
import com.sun.source.tree.NewClassTree;
import com.sun.source.tree.Tree;
import com.sun.source.tree.VariableTree;
import com.sun.source.tree.WhileLoopTree;
import com.sun.source.util.JavacTask;
import com.sun.source.util.TreePathScanner;
import com.sun.source.util.Trees;
import java.io.IOException;
import java.nio.file.Path;
import java.util.ArrayList;
import java.util.List;
import java.util.Map;
import java.util.Set;
import java.util.TreeMap;
import java.util.TreeSet;
import javax.lang.model.element.Element;
import javax.lang.model.element.ElementKind;
import javax.lang.model.element.VariableElement;
import javax.tools.JavaCompiler;
import javax.tools.StandardJavaFileManager;
import javax.tools.ToolProvider;

/** What LANGUAGE.md asks of calls, loops, constructors and divisors, seen in the tree that javac makes of the class. */
public final class ShapeTest {
    private static final int DEEPEST = 8;
    // these two carry how many ( and not are open, and the document lets eight be
    private static final Set<String> RECURSIVE = Set.of("Reader.chain", "Reader.condition");

    private static final Map<String, Set<String>> calls = new TreeMap<>();
    private static int looked = 0;
    private static int wrong = 0;

    private static void check(boolean right, String rule) {
        looked++;
        if (!right) {
            wrong++;
            System.out.println("not kept: " + rule);
        }
    }

    /** Walks through the class; knows in which method and in how many loops it is. */
    private static final class Walk extends TreePathScanner<Void, Void> {
        private final Trees trees;
        private final CompilationUnitTree unit;
        private String method = "";
        private String body = "";
        private boolean makes = true;
        private int loops = 0;

        Walk(Trees trees, CompilationUnitTree unit) {
            this.trees = trees;
            this.unit = unit;
        }

        private String at(Tree tree) {
            long place = trees.getSourcePositions().getStartPosition(unit, tree);
            return "line " + unit.getLineMap().getLineNumber(place) + ": " + tree;
        }

        private String name(Element e) {
            return e.getEnclosingElement().getSimpleName() + "." + e.getSimpleName();
        }

        @Override
        public Void visitMethod(MethodTree tree, Void v) {
            Element e = trees.getElement(getCurrentPath());
            method = name(e);
            body = String.valueOf(tree.getBody());
            makes = e.getKind() == ElementKind.CONSTRUCTOR;
            check(calls.put(method, new TreeSet<>()) == null, "each method has a name of its own: " + method);
            super.visitMethod(tree, v);
            makes = true;
            method = "";
            return null;
        }

        @Override
        public Void visitMethodInvocation(MethodInvocationTree tree, Void v) {
            Element called = trees.getElement(getCurrentPath());
            if (calls.containsKey(method)) calls.get(method).add(name(called));
            boolean own = called.getEnclosingElement().toString().startsWith("LastToWince");
            check(!makes || !own, "12: a constructor calls no method of its own: " + at(tree));
            return super.visitMethodInvocation(tree, v);
        }

        @Override
        public Void visitNewClass(NewClassTree tree, Void v) {
            check(makes, "12: objects are made with the object: " + at(tree));
            check(tree.getArguments().isEmpty(), "12: a constructor hands out nothing: " + at(tree));
            return super.visitNewClass(tree, v);
        }

        @Override
        public Void visitNewArray(NewArrayTree tree, Void v) {
            check(makes || loops == 0, "12: no row is made in a loop: " + at(tree));
            return super.visitNewArray(tree, v);
        }

        @Override
        public Void visitIdentifier(IdentifierTree tree, Void v) {
            check(!tree.getName().contentEquals("this"), "12: this is handed out: " + at(tree));
            return super.visitIdentifier(tree, v);
        }

        @Override
        public Void visitBinary(BinaryTree tree, Void v) {
            if (tree.getKind() == Tree.Kind.DIVIDE || tree.getKind() == Tree.Kind.REMAINDER) {
                ExpressionTree by = tree.getRightOperand();
                boolean tested = body.contains(by + " > 0") || body.contains(by + " != 0");
                check(tested || fixed(by), "7: the divisor is looked at: " + at(tree));
            }
            return super.visitBinary(tree, v);
        }

        private boolean fixed(ExpressionTree by) {
            if (by instanceof LiteralTree number) return !number.getValue().equals(0);
            Element e = trees.getElement(trees.getPath(unit, by));
            Object value = e instanceof VariableElement variable ? variable.getConstantValue() : null;
            return value != null && !value.equals(0);
        }

        @Override
        public Void visitForLoop(ForLoopTree tree, Void v) {
            check(tree.getCondition() != null && tree.getUpdate().size() == 1, "9: a loop ends: " + at(tree));
            loops++;
            super.visitForLoop(tree, v);
            loops--;
            return null;
        }

        @Override
        public Void visitWhileLoop(WhileLoopTree tree, Void v) {
            check(String.valueOf(tree.getStatement()).contains("++"), "9: a loop counts: " + at(tree));
            loops++;
            super.visitWhileLoop(tree, v);
            loops--;
            return null;
        }

        @Override
        public Void visitDoWhileLoop(DoWhileLoopTree tree, Void v) {
            check(false, "9: a loop's end stands ahead of it: " + at(tree));
            return super.visitDoWhileLoop(tree, v);
        }

        @Override
        public Void visitVariable(VariableTree tree, Void v) {
            String type = String.valueOf(tree.getType());
            check(!type.contains("[][]") && !type.equals("double") && !type.equals("float"), "3: plain: " + at(tree));
            return super.visitVariable(tree, v);
        }

        @Override
        public Void visitAssignment(AssignmentTree tree, Void v) {
            Element e = trees.getElement(trees.getPath(unit, tree.getVariable()));
            boolean shared = e != null && e.getModifiers().contains(javax.lang.model.element.Modifier.STATIC);
            check(!shared, "5: what is static stays: " + at(tree));
            return super.visitAssignment(tree, v);
        }
    }

    /** The longest way of calls from a method on; one that comes again is not gone into again. */
    private static List<String> deepest(String method, List<String> way) {
        List<String> found = new ArrayList<>(way);
        found.add(method);
        List<String> here = List.copyOf(found);
        for (String next : calls.getOrDefault(method, Set.of())) {
            if (here.contains(next)) continue;
            List<String> further = deepest(next, here);
            if (further.size() > found.size()) found = further;
        }
        return found;
    }

    private static boolean comesAgain(String method) {
        Set<String> reached = new TreeSet<>(calls.get(method));
        List<String> open = new ArrayList<>(reached);
        for (int i = 0; i < open.size(); i++) {
            for (String next : calls.getOrDefault(open.get(i), Set.of())) {
                if (reached.add(next)) open.add(next);
            }
        }
        return reached.contains(method);
    }

    public static void main(String[] args) throws IOException {
        Path path = Path.of(System.getProperty("source", "src/main/java/LastToWince.java"));
        JavaCompiler javac = ToolProvider.getSystemJavaCompiler();
        try (StandardJavaFileManager files = javac.getStandardFileManager(null, null, null)) {
            JavacTask task = (JavacTask) javac.getTask(null, files, null, List.of("-proc:none"), null,
                files.getJavaFileObjects(path));
            for (CompilationUnitTree unit : task.parse()) {
                task.analyze();
                new Walk(Trees.instance(task), unit).scan(unit, null);
            }
        }
        for (String method : calls.keySet()) {
            List<String> way = deepest(method, List.of());
            check(way.size() <= DEEPEST, "11: calls go eight deep: " + way);
            check(!comesAgain(method) || RECURSIVE.contains(method), "8: " + method + " calls itself");
        }
        System.out.println(looked + " places of " + calls.size() + " methods were looked at, "
            + (wrong == 0 ? "all as they may be" : wrong + " not as they may be"));
        if (wrong != 0 || calls.size() < 39) System.exit(1);
    }
}
