import com.sun.source.tree.BinaryTree;
import com.sun.source.tree.CompilationUnitTree;
import com.sun.source.tree.CompoundAssignmentTree;
import com.sun.source.tree.DoWhileLoopTree;
import com.sun.source.tree.ExpressionTree;
import com.sun.source.tree.ForLoopTree;
import com.sun.source.tree.MethodInvocationTree;
import com.sun.source.tree.MethodTree;
import com.sun.source.tree.NewArrayTree;
import com.sun.source.tree.NewClassTree;
import com.sun.source.tree.Tree;
import com.sun.source.tree.TypeCastTree;
import com.sun.source.tree.WhileLoopTree;
import com.sun.source.util.JavacTask;
import com.sun.source.util.TreePath;
import com.sun.source.util.TreePathScanner;
import com.sun.source.util.Trees;
import java.io.IOException;
import java.nio.file.Path;
import java.util.ArrayList;
import java.util.LinkedHashMap;
import java.util.LinkedHashSet;
import java.util.List;
import java.util.Map;
import java.util.Set;
import javax.lang.model.element.Element;
import javax.lang.model.element.ElementKind;
import javax.lang.model.element.ExecutableElement;
import javax.lang.model.element.Modifier;
import javax.lang.model.element.TypeElement;
import javax.lang.model.element.VariableElement;
import javax.lang.model.type.DeclaredType;
import javax.lang.model.type.TypeKind;
import javax.lang.model.type.TypeMirror;
import javax.tools.JavaCompiler;
import javax.tools.StandardJavaFileManager;
import javax.tools.ToolProvider;

/** What of LANGUAGE.md is told by the tree that the compiler makes of the source. */
public final class TreeTest extends TreePathScanner<Void, ExecutableElement> {
    private static final Path SOURCE = Path.of("src/main/java/WhoSitsBy.java");
    private static final int DEEPEST = 8;

    private final CompilationUnitTree unit;
    private final Trees trees;
    private final Map<ExecutableElement, List<Call>> calls = new LinkedHashMap<>();
    private final Set<TypeElement> classes = new LinkedHashSet<>();

    private TreeTest(CompilationUnitTree unit, Trees trees) {
        this.unit = unit;
        this.trees = trees;
    }

    /** A call as it stands in a method: of this object, of the class above's, or of another object. */
    private static final class Call {
        final ExecutableElement called;
        final boolean own;
        final boolean above;

        Call(ExecutableElement called, String told) {
            this.called = called;
            this.own = told.indexOf('.') < 0;
            this.above = told.startsWith("super.") || told.equals("super");
        }
    }

    /** A method that runs, and the class of the object whose it is (null: that decides nothing). */
    private static final class Run {
        final ExecutableElement method;
        final TypeElement of;

        Run(ExecutableElement method, TypeElement of) {
            this.method = method;
            this.of = of;
        }
    }

    public static void main(String[] args) throws IOException {
        JavaCompiler compiler = ToolProvider.getSystemJavaCompiler();
        try (StandardJavaFileManager files = compiler.getStandardFileManager(null, null, null)) {
            JavacTask task = (JavacTask) compiler.getTask(null, files, null, List.of("-proc:none"), null,
                files.getJavaFileObjects(SOURCE));
            CompilationUnitTree unit = task.parse().iterator().next();
            task.analyze();
            TreeTest test = new TreeTest(unit, Trees.instance(task));
            test.scan(unit, null);
            test.depths();
        }
        Due.end("TreeTest");
    }

    private void none(String what, Tree tree, boolean there) {
        long line = unit.getLineMap().getLineNumber(trees.getSourcePositions().getStartPosition(unit, tree));
        Due.due(what + " in line " + line + ": " + tree, there ? 1 : 0, 0);
    }

    private TypeMirror typeOf(Tree tree) {
        return trees.getTypeMirror(new TreePath(getCurrentPath(), tree));
    }

    @Override
    public Void visitMethod(MethodTree tree, ExecutableElement outer) {
        ExecutableElement method = (ExecutableElement) trees.getElement(getCurrentPath());
        calls.put(method, new ArrayList<>());
        classes.add((TypeElement) method.getEnclosingElement());
        return super.visitMethod(tree, method);
    }

    @Override
    public Void visitMethodInvocation(MethodInvocationTree tree, ExecutableElement in) {
        if (in != null) {
            ExecutableElement called = (ExecutableElement) trees.getElement(getCurrentPath());
            calls.get(in).add(new Call(called, tree.getMethodSelect().toString()));
        }
        return super.visitMethodInvocation(tree, in);
    }

    @Override
    public Void visitBinary(BinaryTree tree, ExecutableElement in) {
        boolean divides = tree.getKind() == Tree.Kind.DIVIDE || tree.getKind() == Tree.Kind.REMAINDER;
        Due.rule(7);
        none("a divisor that may be 0", tree, divides && mayBeZero(tree.getRightOperand()));
        boolean plain = typeOf(tree.getLeftOperand()).getKind().isPrimitive()
            && typeOf(tree.getRightOperand()).getKind().isPrimitive();
        boolean isNull = tree.getRightOperand().getKind() == Tree.Kind.NULL_LITERAL;
        Due.rule(6);
        none("a comparison or a join of what is no number", tree, !plain && !isNull);
        return super.visitBinary(tree, in);
    }

    @Override
    public Void visitCompoundAssignment(CompoundAssignmentTree tree, ExecutableElement in) {
        boolean divides = tree.getKind() == Tree.Kind.DIVIDE_ASSIGNMENT
            || tree.getKind() == Tree.Kind.REMAINDER_ASSIGNMENT;
        Due.rule(7);
        none("a divisor that may be 0", tree, divides && mayBeZero(tree.getExpression()));
        Due.rule(10);
        none("a join of texts", tree, !typeOf(tree.getVariable()).getKind().isPrimitive());
        return super.visitCompoundAssignment(tree, in);
    }

    // no number written out, and no constant
    private boolean mayBeZero(ExpressionTree divisor) {
        Element named = trees.getElement(new TreePath(getCurrentPath(), divisor));
        Object value = named instanceof VariableElement ? ((VariableElement) named).getConstantValue() : null;
        String told = value == null ? divisor.toString() : value.toString();
        return !told.matches("[1-9]\\d*");
    }

    @Override
    public Void visitTypeCast(TypeCastTree tree, ExecutableElement in) {
        Due.rule(6);
        none("a cast to what is no number", tree, !typeOf(tree).getKind().isPrimitive());
        return super.visitTypeCast(tree, in);
    }

    @Override
    public Void visitForLoop(ForLoopTree tree, ExecutableElement in) {
        Due.rule(9);
        boolean counts = tree.getInitializer().size() == 1 && tree.getCondition() != null
            && tree.getUpdate().size() == 1;
        none("a loop that does not count", tree, !counts);
        return super.visitForLoop(tree, in);
    }

    @Override
    public Void visitWhileLoop(WhileLoopTree tree, ExecutableElement in) {
        Due.rule(9);
        none("a loop that does not count", tree, true);
        return super.visitWhileLoop(tree, in);
    }

    @Override
    public Void visitDoWhileLoop(DoWhileLoopTree tree, ExecutableElement in) {
        Due.rule(9);
        none("a loop that does not count", tree, true);
        return super.visitDoWhileLoop(tree, in);
    }

    // rows are made once, with the object that has them; of objects a call makes none but a pupil
    @Override
    public Void visitNewArray(NewArrayTree tree, ExecutableElement in) {
        Due.rule(12);
        none("a row made by a call", tree, in != null && in.getKind() != ElementKind.CONSTRUCTOR);
        return super.visitNewArray(tree, in);
    }

    @Override
    public Void visitNewClass(NewClassTree tree, ExecutableElement in) {
        Due.rule(12);
        none("an object made by a call", tree, in != null && in.getKind() != ElementKind.CONSTRUCTOR
            && !in.getSimpleName().contentEquals("made"));
        return super.visitNewClass(tree, in);
    }

    /** From each public method: how deep calls go that are no recursion, and whose recursion there is. */
    private void depths() {
        for (ExecutableElement method : calls.keySet()) {
            if (method.getModifiers().contains(Modifier.PUBLIC)) {
                List<Run> chain = longest(new Run(method, null), new ArrayList<>());
                Due.rule(11);
                Due.due("deeper than " + DEEPEST + ": " + told(chain), Math.max(0, chain.size() - DEEPEST), 0);
            }
        }
    }

    private List<Run> longest(Run run, List<Run> open) {
        open.add(run);
        List<Run> best = new ArrayList<>();
        for (Run next : runsOf(run)) {
            if (open.stream().noneMatch(each -> each.method.equals(next.method))) {
                List<Run> chain = longest(next, open);
                best = chain.size() > best.size() ? chain : best;
            } else {
                Due.rule(8);
                Due.due("a method that recurs and is not private: " + next.method,
                    next.method.getModifiers().contains(Modifier.PRIVATE) ? 1 : 0, 1);
                boolean counts = next.method.getParameters().stream()
                    .anyMatch(each -> each.asType().getKind() == TypeKind.INT);
                Due.due("a recursion without an int that could be its depth: " + next.method, counts ? 1 : 0, 1);
            }
        }
        open.remove(open.size() - 1);
        List<Run> chain = new ArrayList<>(List.of(run));
        chain.addAll(best);
        return chain;
    }

    private List<Run> runsOf(Run run) {
        List<Run> runs = new ArrayList<>();
        for (Call call : calls.get(run.method)) {
            if (!calls.containsKey(call.called)) {
                continue;
            }
            Set<Modifier> modifiers = call.called.getModifiers();
            if (call.above || modifiers.contains(Modifier.STATIC) || modifiers.contains(Modifier.PRIVATE)) {
                runs.add(new Run(call.called, run.of));
            } else if (call.own && run.of != null) {
                runs.add(new Run(bodyOf(run.of, call.called), run.of));
            } else {
                runsOfAny(call.called, runs);
            }
        }
        return runs;
    }

    // an object of the method's class, or of any under it
    private void runsOfAny(ExecutableElement called, List<Run> runs) {
        for (TypeElement one : classes) {
            for (TypeElement up = one; up != null; up = above(up)) {
                if (up.equals(called.getEnclosingElement())) {
                    runs.add(new Run(bodyOf(one, called), one));
                }
            }
        }
    }

    private ExecutableElement bodyOf(TypeElement of, ExecutableElement called) {
        for (TypeElement up = of; up != null; up = above(up)) {
            for (Element each : up.getEnclosedElements()) {
                if (each.toString().equals(called.toString()) && calls.containsKey(each)) {
                    return (ExecutableElement) each;
                }
            }
        }
        return called;
    }

    private static TypeElement above(TypeElement one) {
        TypeMirror above = one.getSuperclass();
        return above.getKind() == TypeKind.DECLARED ? (TypeElement) ((DeclaredType) above).asElement() : null;
    }

    private static String told(List<Run> chain) {
        StringBuilder s = new StringBuilder();
        for (Run each : chain) {
            s.append(s.length() == 0 ? "" : " > ").append(each.method.getEnclosingElement().getSimpleName())
                .append('.').append(each.method.getSimpleName());
        }
        return s.toString();
    }
}
