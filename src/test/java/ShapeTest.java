import com.sun.source.tree.BinaryTree;
import com.sun.source.tree.ClassTree;
import com.sun.source.tree.CompilationUnitTree;
import com.sun.source.tree.CompoundAssignmentTree;
import com.sun.source.tree.ExpressionTree;
import com.sun.source.tree.IdentifierTree;
import com.sun.source.tree.LambdaExpressionTree;
import com.sun.source.tree.LiteralTree;
import com.sun.source.tree.MemberReferenceTree;
import com.sun.source.tree.MethodInvocationTree;
import com.sun.source.tree.MethodTree;
import com.sun.source.tree.NewArrayTree;
import com.sun.source.tree.NewClassTree;
import com.sun.source.tree.Tree;
import com.sun.source.tree.TypeCastTree;
import com.sun.source.tree.VariableTree;
import com.sun.source.util.JavacTask;
import com.sun.source.util.SourcePositions;
import com.sun.source.util.TreePath;
import com.sun.source.util.TreePathScanner;
import com.sun.source.util.Trees;
import java.io.IOException;
import java.nio.file.Path;
import java.util.HashMap;
import java.util.List;
import java.util.Map;
import java.util.Set;
import java.util.TreeSet;
import javax.lang.model.element.Element;
import javax.lang.model.element.VariableElement;
import javax.lang.model.type.TypeMirror;
import javax.tools.JavaCompiler;
import javax.tools.StandardJavaFileManager;
import javax.tools.ToolProvider;

/** What ../shared/LANGUAGE.md says of the program's shape, as the compiler itself reads the program. */
public final class ShapeTest {
    private static final int MOST_LINES = 60, MOST_DEEP = 8, MOST_CLASSES = 12;

    private static final Set<String> LIBRARY = Set.of(
        "java.lang.String.length", "java.lang.String.charAt", "java.lang.Integer.bitCount",
        "java.lang.Math.min", "java.lang.Math.max", "java.lang.System.arraycopy", "java.util.Arrays.fill");

    private static final Set<String> TYPES = Set.of(
        "int", "long", "boolean", "int[]", "boolean[]", "int[][]", "java.lang.String");

    private final Map<String, Set<String>> calls = new HashMap<>();
    private final Map<String, Integer> depths = new HashMap<>();
    private int classes = 0;

    public static void main(String[] args) throws IOException {
        new ShapeTest().read(Path.of(System.getProperty("program", "src/main/java/WellLocks.java")));
        Check.end();
    }

    private static void holds(String what, boolean does) {
        Check.due(what, does ? 1 : 0, 1);
    }

    private void read(Path program) throws IOException {
        JavaCompiler compiler = ToolProvider.getSystemJavaCompiler();
        try (StandardJavaFileManager files = compiler.getStandardFileManager(null, null, null)) {
            JavacTask task = (JavacTask) compiler.getTask(null, files, null, List.of("-proc:none"), null,
                files.getJavaFileObjects(program));
            Iterable<? extends CompilationUnitTree> units = task.parse();
            task.analyze();
            for (CompilationUnitTree unit : units) {
                new Scanner(Trees.instance(task), unit).scan(unit, null);
            }
        }
        holds("there are calls", calls.size() > 50);
        holds("twelve classes at most", classes <= MOST_CLASSES);
        for (String method : calls.keySet()) {
            int deep = depth(method, new TreeSet<>());
            holds(method + " goes " + deep + " calls deep", deep <= MOST_DEEP);
        }
    }

    /** How many calls stand open at once below a method, itself among them; recursion counts as one. */
    private int depth(String method, Set<String> above) {
        if (depths.containsKey(method)) {
            return depths.get(method);
        }
        int deepest = 0;
        above.add(method);
        for (String called : calls.getOrDefault(method, Set.of())) {
            if (called.equals(method)) {
                continue;
            }
            holds(called + " is called in a ring of methods", !above.contains(called));
            if (!above.contains(called)) {
                deepest = Math.max(deepest, depth(called, above));
            }
        }
        above.remove(method);
        depths.put(method, deepest + 1);
        return deepest + 1;
    }

    private final class Scanner extends TreePathScanner<Void, Void> {
        private final Trees trees;
        private final CompilationUnitTree unit;
        private String method = "fields";
        private Set<String> dividing = new TreeSet<>();
        private Set<String> heldAgainstNought = new TreeSet<>();

        Scanner(Trees trees, CompilationUnitTree unit) {
            this.trees = trees;
            this.unit = unit;
        }

        private Element element() {
            return trees.getElement(getCurrentPath());
        }

        private String nameOf(Element called) {
            return called.getEnclosingElement() + "." + called.getSimpleName();
        }

        private long lines(Tree tree) {
            SourcePositions at = trees.getSourcePositions();
            return unit.getLineMap().getLineNumber(at.getEndPosition(unit, tree))
                - unit.getLineMap().getLineNumber(at.getStartPosition(unit, tree)) + 1;
        }

        @Override
        public Void visitClass(ClassTree tree, Void none) {
            classes++;
            return super.visitClass(tree, none);
        }

        @Override
        public Void visitMethod(MethodTree tree, Void none) {
            String outer = method;
            Element self = element();
            method = nameOf(self) + self.asType();
            dividing = new TreeSet<>();
            heldAgainstNought = new TreeSet<>();
            calls.putIfAbsent(method, new TreeSet<>());
            holds(method + " is short", lines(tree) <= MOST_LINES);
            holds(method + " has seven parameters at most", tree.getParameters().size() <= 7);
            super.visitMethod(tree, none);
            for (String divisor : dividing) {
                holds(method + " looks at " + divisor + " before it divides", heldAgainstNought.contains(divisor));
            }
            method = outer;
            return null;
        }

        private boolean isNought(ExpressionTree tree) {
            return tree instanceof LiteralTree && Integer.valueOf(0).equals(((LiteralTree) tree).getValue());
        }

        /** A constant other than 0, or a name that the same method holds against 0. */
        private void divides(ExpressionTree divisor) {
            Element named = trees.getElement(new TreePath(getCurrentPath(), divisor));
            Object constant = divisor instanceof LiteralTree ? ((LiteralTree) divisor).getValue()
                : named instanceof VariableElement ? ((VariableElement) named).getConstantValue() : null;
            if (constant != null) {
                holds(method + " divides by " + constant, ((Number) constant).longValue() != 0);
            } else {
                holds(method + " divides by a name, " + divisor, divisor instanceof IdentifierTree);
                dividing.add(divisor.toString());
            }
        }

        @Override
        public Void visitCompoundAssignment(CompoundAssignmentTree tree, Void none) {
            if (tree.getKind() == Tree.Kind.DIVIDE_ASSIGNMENT || tree.getKind() == Tree.Kind.REMAINDER_ASSIGNMENT) {
                divides(tree.getExpression());
            }
            return super.visitCompoundAssignment(tree, none);
        }

        @Override
        public Void visitMethodInvocation(MethodInvocationTree tree, Void none) {
            Element called = element();
            String name = nameOf(called);
            boolean own = name.startsWith("WellLocks");
            boolean start = called.getSimpleName().contentEquals("<init>");
            holds("the library's " + name, own || start || LIBRARY.contains(name));
            calls.computeIfAbsent(method, m -> new TreeSet<>()).add(name + called.asType());
            return super.visitMethodInvocation(tree, none);
        }

        @Override
        public Void visitNewClass(NewClassTree tree, Void none) {
            holds(method + " makes no object in a call", method.equals("fields") || method.contains("<init>"));
            return super.visitNewClass(tree, none);
        }

        @Override
        public Void visitNewArray(NewArrayTree tree, Void none) {
            holds(method + " makes no array in a call", method.equals("fields") || method.contains("<init>"));
            return super.visitNewArray(tree, none);
        }

        @Override
        public Void visitVariable(VariableTree tree, Void none) {
            String type = element().asType().toString();
            holds(type + " " + tree.getName(), TYPES.contains(type) || type.startsWith("WellLocks."));
            return super.visitVariable(tree, none);
        }

        @Override
        public Void visitBinary(BinaryTree tree, Void none) {
            TypeMirror type = trees.getTypeMirror(getCurrentPath());
            holds("texts are not joined by +", !type.toString().equals("java.lang.String"));
            if (tree.getKind() == Tree.Kind.DIVIDE || tree.getKind() == Tree.Kind.REMAINDER) {
                divides(tree.getRightOperand());
            }
            if (isNought(tree.getRightOperand())) {
                heldAgainstNought.add(tree.getLeftOperand().toString());
            }
            return super.visitBinary(tree, none);
        }

        @Override
        public Void visitTypeCast(TypeCastTree tree, Void none) {
            holds("a cast to " + tree.getType(), Set.of("int", "byte").contains(tree.getType().toString()));
            return super.visitTypeCast(tree, none);
        }

        @Override
        public Void visitLambdaExpression(LambdaExpressionTree tree, Void none) {
            holds("no lambda", false);
            return super.visitLambdaExpression(tree, none);
        }

        @Override
        public Void visitMemberReference(MemberReferenceTree tree, Void none) {
            holds("no method reference", false);
            return super.visitMemberReference(tree, none);
        }
    }
}
