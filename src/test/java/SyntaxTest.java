import com.sun.source.tree.AssertTree;
import com.sun.source.tree.AssignmentTree;
import com.sun.source.tree.BinaryTree;
import com.sun.source.tree.BlockTree;
import com.sun.source.tree.ClassTree;
import com.sun.source.tree.CompilationUnitTree;
import com.sun.source.tree.CompoundAssignmentTree;
import com.sun.source.tree.DoWhileLoopTree;
import com.sun.source.tree.EnhancedForLoopTree;
import com.sun.source.tree.ExpressionTree;
import com.sun.source.tree.ForLoopTree;
import com.sun.source.tree.IdentifierTree;
import com.sun.source.tree.LambdaExpressionTree;
import com.sun.source.tree.LiteralTree;
import com.sun.source.tree.MemberReferenceTree;
import com.sun.source.tree.MemberSelectTree;
import com.sun.source.tree.MethodInvocationTree;
import com.sun.source.tree.MethodTree;
import com.sun.source.tree.NewArrayTree;
import com.sun.source.tree.NewClassTree;
import com.sun.source.tree.SynchronizedTree;
import com.sun.source.tree.ThrowTree;
import com.sun.source.tree.Tree;
import com.sun.source.tree.TryTree;
import com.sun.source.tree.UnaryTree;
import com.sun.source.tree.VariableTree;
import com.sun.source.tree.WhileLoopTree;
import com.sun.source.util.JavacTask;
import com.sun.source.util.TreePath;
import com.sun.source.util.TreePathScanner;
import com.sun.source.util.Trees;
import java.io.IOException;
import java.nio.file.Path;
import java.util.HashMap;
import java.util.HashSet;
import java.util.List;
import java.util.Map;
import java.util.Set;
import java.util.TreeMap;
import java.util.TreeSet;
import javax.lang.model.element.Element;
import javax.lang.model.element.ElementKind;
import javax.lang.model.element.ExecutableElement;
import javax.lang.model.element.Modifier;
import javax.lang.model.element.TypeElement;
import javax.lang.model.type.ArrayType;
import javax.lang.model.type.TypeKind;
import javax.lang.model.type.TypeMirror;
import javax.tools.JavaCompiler;
import javax.tools.StandardJavaFileManager;
import javax.tools.ToolProvider;

/**
 * What of LANGUAGE.md must be read off the class as the compiler understands it: which library it calls, of which
 * types its variables are, which methods call themselves, how deep calls go. Run from the root of the project, or
 * with the file to be read.
 */
public final class SyntaxTest extends TreePathScanner<Void, Void> {
    private static final Due DUE = new Due("SyntaxTest");
    private static final int DEEPEST = 8;
    /** Rule 4, as far as the class may want it. */
    private static final Map<String, Set<String>> LIBRARY = Map.of(
            "java.lang.String", Set.of("length", "charAt", "isEmpty", "equals", "indexOf", "substring", "toCharArray"),
            "java.lang.StringBuilder", Set.of("append", "charAt", "setCharAt", "setLength", "deleteCharAt", "reverse",
                    "length", "toString"),
            "java.lang.System", Set.of("arraycopy"),
            "java.util.Arrays", Set.of("copyOf", "copyOfRange", "fill"),
            "java.util.List", Set.of("add", "get", "set", "remove", "size", "isEmpty", "clear", "of"),
            "java.util.ArrayList", Set.of("add", "get", "set", "remove", "size", "isEmpty", "clear"),
            "java.lang.Math", Set.of("max", "min", "abs", "floorDiv", "floorMod"),
            "java.lang.Integer", Set.of("compare", "max", "min", "bitCount"),
            "java.lang.Long", Set.of("compare", "max", "min", "bitCount"));
    private static final Set<String> TEXTS = Set.of("java.lang.String", "java.lang.StringBuilder");
    private static final String LISTS = "java\\.util\\.(Array)?List<(java\\.lang\\.Integer|TollForHesitators\\.\\w+)>";

    private final Trees trees;
    /** Which of its own methods each of its own methods calls. */
    private final Map<ExecutableElement, Set<ExecutableElement>> calls = new HashMap<>();
    private final Set<ExecutableElement> callsLibrary = new HashSet<>();
    private final Map<String, Integer> kinds = new TreeMap<>();
    private TypeElement outermost;

    private SyntaxTest(Trees trees) {
        this.trees = trees;
    }

    public static void main(String[] args) throws IOException {
        Path file = Path.of(args.length > 0 ? args[0] : "src/main/java/TollForHesitators.java");
        JavaCompiler compiler = ToolProvider.getSystemJavaCompiler();
        StandardJavaFileManager files = compiler.getStandardFileManager(null, null, null);
        JavacTask task = (JavacTask) compiler.getTask(null, files, null, List.of("-proc:none"), null,
                files.getJavaFileObjects(file));
        Iterable<? extends CompilationUnitTree> units = task.parse();
        task.analyze();
        SyntaxTest test = new SyntaxTest(Trees.instance(task));
        for (CompilationUnitTree unit : units) {
            DUE.holds("1: no package line", unit.getPackage() == null);
            DUE.is("1: classes of the file", unit.getTypeDecls().size(), 1);
            test.scan(unit, null);
        }
        test.whatCallsWhat();
        DUE.holds("the file was read: " + test.kinds, test.kinds.getOrDefault("METHOD", 0) > 36);
        DUE.end();
    }

    // ---- helpers

    private void no(int rule, String what, Tree tree) {
        DUE.holds(rule + ": no " + what + " (" + tree + ")", false);
    }

    private Element elementOf(Tree tree) {
        return trees.getElement(new TreePath(getCurrentPath(), tree));
    }

    private TypeMirror typeOf(Tree tree) {
        return trees.getTypeMirror(new TreePath(getCurrentPath(), tree));
    }

    /** The class itself, or one inside it. */
    private boolean isOwn(Element e) {
        for (Element up = e; up != null; up = up.getEnclosingElement()) {
            if (up.equals(outermost)) {
                return true;
            }
        }
        return false;
    }

    private ExecutableElement method() {
        for (TreePath p = getCurrentPath(); p != null; p = p.getParentPath()) {
            if (p.getLeaf() instanceof MethodTree) {
                return (ExecutableElement) trees.getElement(p);
            }
        }
        return null;
    }

    private boolean inLoop() {
        for (TreePath p = getCurrentPath(); p != null && !(p.getLeaf() instanceof MethodTree); p = p.getParentPath()) {
            Tree t = p.getLeaf();
            if (t instanceof ForLoopTree || t instanceof WhileLoopTree || t instanceof DoWhileLoopTree
                    || t instanceof EnhancedForLoopTree) {
                return true;
            }
        }
        return false;
    }

    @Override
    public Void scan(Tree tree, Void v) {
        if (tree != null) {
            kinds.merge(tree.getKind().name(), 1, Integer::sum);
        }
        return super.scan(tree, v);
    }

    // ---- 1, 2, 5, 11: classes, fields, methods

    @Override
    public Void visitClass(ClassTree c, Void v) {
        TypeElement e = (TypeElement) trees.getElement(getCurrentPath());
        if (outermost == null) {
            outermost = e;
            DUE.holds("1: the class is public and final", e.getModifiers().containsAll(Set.of(Modifier.PUBLIC, Modifier.FINAL)));
        } else {
            DUE.holds("2: " + e + " stands in the class itself", outermost.equals(e.getEnclosingElement()));
            DUE.holds("2: " + e + " is static", e.getModifiers().contains(Modifier.STATIC));
        }
        for (Tree member : c.getMembers()) {
            if (member instanceof BlockTree) {
                no(5, "initialiser block", member);
            }
        }
        return super.visitClass(c, v);
    }

    @Override
    public Void visitMethod(MethodTree m, Void v) {
        ExecutableElement e = (ExecutableElement) trees.getElement(getCurrentPath());
        calls.putIfAbsent(e, new HashSet<>());
        DUE.holds("11: parameters of " + e, m.getParameters().size() <= 7);
        DUE.holds("6: " + e + " tells no exception", m.getThrows().isEmpty());
        return super.visitMethod(m, v);
    }

    // ---- 3, 5: variables

    private boolean mayStand(TypeMirror type, int dimensions) {
        if (type.getKind().isPrimitive()) {
            return dimensions <= 2;
        }
        if (type.getKind() == TypeKind.ARRAY) {
            return mayStand(((ArrayType) type).getComponentType(), dimensions + 1);
        }
        if (type.getKind() != TypeKind.DECLARED) {
            return false;
        }
        return dimensions == 0 && (TEXTS.contains(type.toString()) || type.toString().matches(LISTS))
                || dimensions <= 1 && type.toString().startsWith(outermost.toString() + ".");
    }

    @Override
    public Void visitVariable(VariableTree variable, Void v) {
        Element e = trees.getElement(getCurrentPath());
        DUE.holds("3: the type of '" + variable + "'", mayStand(e.asType(), 0));
        boolean isField = e.getKind() == ElementKind.FIELD;
        if (isField && e.getModifiers().contains(Modifier.STATIC)) {
            DUE.holds("5: final, '" + variable + "'", e.getModifiers().contains(Modifier.FINAL));
            boolean isConstant = ((javax.lang.model.element.VariableElement) e).getConstantValue() != null;
            boolean isWritten = variable.getInitializer() instanceof NewArrayTree
                    && ((NewArrayTree) variable.getInitializer()).getInitializers() != null;
            DUE.holds("5: a constant, or an array written out: '" + variable + "'", isConstant || isWritten);
        }
        return super.visitVariable(variable, v);
    }

    // ---- 2, 6: what may not stand at all

    @Override
    public Void visitLambdaExpression(LambdaExpressionTree t, Void v) {
        no(2, "lambda", t);
        return super.visitLambdaExpression(t, v);
    }

    @Override
    public Void visitMemberReference(MemberReferenceTree t, Void v) {
        no(2, "method reference", t);
        return super.visitMemberReference(t, v);
    }

    @Override
    public Void visitThrow(ThrowTree t, Void v) {
        no(6, "throw", t);
        return super.visitThrow(t, v);
    }

    @Override
    public Void visitTry(TryTree t, Void v) {
        no(6, "try", t);
        return super.visitTry(t, v);
    }

    @Override
    public Void visitSynchronized(SynchronizedTree t, Void v) {
        no(6, "synchronized", t);
        return super.visitSynchronized(t, v);
    }

    @Override
    public Void visitAssert(AssertTree t, Void v) {
        no(6, "assert", t);
        return super.visitAssert(t, v);
    }

    // ---- 4, 8, 12: what is called and made

    @Override
    public Void visitMethodInvocation(MethodInvocationTree t, Void v) {
        ExecutableElement called = (ExecutableElement) elementOf(t);
        ExecutableElement caller = method();
        if (called.getKind() == ElementKind.CONSTRUCTOR) {
            return super.visitMethodInvocation(t, v);
        }
        if (isOwn(called)) {
            if (caller != null) {
                calls.computeIfAbsent(caller, c -> new HashSet<>()).add(called);
            }
        } else {
            callsLibrary.add(caller);
            String owner = called.getEnclosingElement().toString();
            DUE.holds("4: a library that may be: " + owner + ": " + t,
                    LIBRARY.getOrDefault(owner, Set.of()).contains(called.getSimpleName().toString()));
        }
        return super.visitMethodInvocation(t, v);
    }

    @Override
    public Void visitNewClass(NewClassTree t, Void v) {
        DUE.holds("2: no class without a name: " + t, t.getClassBody() == null);
        Element made = elementOf(t.getIdentifier());
        DUE.holds("3: an object that may be: " + t, isOwn(made)
                || Set.of("java.lang.StringBuilder", "java.util.ArrayList").contains(made.toString()));
        ExecutableElement maker = method();
        boolean isOnce = maker == null || maker.getKind() == ElementKind.CONSTRUCTOR;
        DUE.holds("12: in a loop only where the object itself is made: " + t, isOnce || !inLoop());
        return super.visitNewClass(t, v);
    }

    @Override
    public Void visitNewArray(NewArrayTree t, Void v) {
        ExecutableElement maker = method();
        DUE.holds("room: rows are made with the object alone: " + t,
                maker == null || maker.getKind() == ElementKind.CONSTRUCTOR);
        return super.visitNewArray(t, v);
    }

    /** 12: a constructor hands out nothing of itself. */
    @Override
    public Void visitIdentifier(IdentifierTree t, Void v) {
        Tree above = getCurrentPath().getParentPath().getLeaf();
        if (t.getName().contentEquals("this") && !(above instanceof MemberSelectTree)) {
            ExecutableElement e = method();
            DUE.holds("12: 'this' is not handed out by a constructor", e == null || e.getKind() != ElementKind.CONSTRUCTOR);
        }
        return super.visitIdentifier(t, v);
    }

    // ---- 7, 9, 10: sums, divisors, loops

    @Override
    public Void visitBinary(BinaryTree t, Void v) {
        boolean texts = isObject(t.getLeftOperand()) && isObject(t.getRightOperand());
        switch (t.getKind()) {
            case PLUS:
                DUE.holds("10: no texts joined by +: " + t, !isObject(t.getLeftOperand()) && !isObject(t.getRightOperand()));
                break;
            case EQUAL_TO:
            case NOT_EQUAL_TO:
                DUE.holds("6: no == between texts: " + t, !texts || !isText(t.getLeftOperand()) || !isText(t.getRightOperand()));
                break;
            case DIVIDE:
            case REMAINDER:
                divisor(t.getRightOperand());
                break;
            default:
        }
        return super.visitBinary(t, v);
    }

    @Override
    public Void visitCompoundAssignment(CompoundAssignmentTree t, Void v) {
        DUE.holds("10: no texts joined by +=: " + t, !isObject(t.getVariable()));
        if (t.getKind() == Tree.Kind.DIVIDE_ASSIGNMENT || t.getKind() == Tree.Kind.REMAINDER_ASSIGNMENT) {
            divisor(t.getExpression());
        }
        return super.visitCompoundAssignment(t, v);
    }

    private boolean isObject(ExpressionTree t) {
        return typeOf(t).getKind() == TypeKind.DECLARED;
    }

    private boolean isText(ExpressionTree t) {
        return typeOf(t).toString().equals("java.lang.String") || typeOf(t).toString().equals("java.lang.Integer");
    }

    /** 7: a number other than 0 that stands there, or a variable that is compared ahead of it. */
    private void divisor(ExpressionTree t) {
        if (t instanceof LiteralTree) {
            DUE.holds("7: the divisor " + t, !((LiteralTree) t).getValue().equals(0));
            return;
        }
        Element e = elementOf(t);
        boolean isConstant = e instanceof javax.lang.model.element.VariableElement
                && ((javax.lang.model.element.VariableElement) e).getConstantValue() != null;
        DUE.holds("7: the divisor " + t + " is a constant or is compared ahead", isConstant || isCompared(e, t));
    }

    private boolean isCompared(Element divisor, ExpressionTree place) {
        TreePath path = getCurrentPath();
        while (path != null && !(path.getLeaf() instanceof MethodTree)) {
            path = path.getParentPath();
        }
        if (path == null || divisor == null) {
            return false;
        }
        long at = trees.getSourcePositions().getStartPosition(path.getCompilationUnit(), place);
        boolean[] found = {false};
        new TreePathScanner<Void, Void>() {
            @Override
            public Void visitBinary(BinaryTree t, Void v) {
                boolean isAhead = trees.getSourcePositions().getStartPosition(getCurrentPath().getCompilationUnit(), t) < at;
                boolean compares = Set.of(Tree.Kind.LESS_THAN, Tree.Kind.LESS_THAN_EQUAL, Tree.Kind.GREATER_THAN,
                        Tree.Kind.EQUAL_TO, Tree.Kind.NOT_EQUAL_TO, Tree.Kind.GREATER_THAN_EQUAL).contains(t.getKind());
                Element left = trees.getElement(new TreePath(getCurrentPath(), t.getLeftOperand()));
                found[0] |= isAhead && compares && divisor.equals(left);
                return super.visitBinary(t, v);
            }
        }.scan(path, null);
        return found[0];
    }

    @Override
    public Void visitForLoop(ForLoopTree t, Void v) {
        DUE.holds("9: a loop with an end: " + t.getCondition(), t.getCondition() != null && !isTrue(t.getCondition()));
        for (VariableTree counter : countersOf(t)) {
            changedInside(t, counter);
        }
        return super.visitForLoop(t, v);
    }

    private static boolean isTrue(ExpressionTree condition) {
        return condition.toString().replaceAll("[()]", "").equals("true");
    }

    private static List<VariableTree> countersOf(ForLoopTree t) {
        return t.getInitializer().stream().filter(i -> i instanceof VariableTree).map(i -> (VariableTree) i).toList();
    }

    /** 9: nothing in its body sets the counter back. */
    private void changedInside(ForLoopTree loop, VariableTree counter) {
        String name = counter.getName().toString();
        boolean[] changed = {false};
        new TreePathScanner<Void, Void>() {
            @Override
            public Void visitAssignment(AssignmentTree t, Void v) {
                changed[0] |= t.getVariable().toString().equals(name);
                return super.visitAssignment(t, v);
            }

            @Override
            public Void visitCompoundAssignment(CompoundAssignmentTree t, Void v) {
                changed[0] |= t.getVariable().toString().equals(name);
                return super.visitCompoundAssignment(t, v);
            }

            @Override
            public Void visitUnary(UnaryTree t, Void v) {
                changed[0] |= t.getKind().name().contains("CREMENT") && t.getExpression().toString().equals(name);
                return super.visitUnary(t, v);
            }
        }.scan(new TreePath(getCurrentPath(), loop.getStatement()), null);
        DUE.holds("9: only its head changes the counter " + name, !changed[0]);
    }

    @Override
    public Void visitWhileLoop(WhileLoopTree t, Void v) {
        DUE.holds("9: a loop with an end: " + t.getCondition(), !isTrue(t.getCondition()));
        return super.visitWhileLoop(t, v);
    }

    @Override
    public Void visitDoWhileLoop(DoWhileLoopTree t, Void v) {
        DUE.holds("9: a loop with an end: " + t.getCondition(), !isTrue(t.getCondition()));
        return super.visitDoWhileLoop(t, v);
    }

    // ---- 8, 11: what calls what

    private void whatCallsWhat() {
        for (ExecutableElement m : calls.keySet()) {
            if (reaches(m, m, new HashSet<>())) {
                DUE.holds("8: who calls himself is private and static: " + m,
                        m.getModifiers().containsAll(Set.of(Modifier.PRIVATE, Modifier.STATIC)));
                DUE.holds("8: who calls himself carries the depth: " + m,
                        m.getParameters().stream().anyMatch(p -> p.getSimpleName().contentEquals("depth")));
            }
        }
        for (ExecutableElement m : calls.keySet()) {
            if (m.getModifiers().contains(Modifier.PUBLIC)) {
                int deep = depth(m, new HashSet<>());
                DUE.holds("11: calls of " + m + " go eight deep at most: " + deep, deep <= DEEPEST);
            }
        }
        Set<String> never = new TreeSet<>(Set.of("equals", "hashCode", "toString", "finalize", "clone"));
        for (ExecutableElement m : calls.keySet()) {
            DUE.holds("6: the name of " + m, !never.contains(m.getSimpleName().toString()));
        }
    }

    private boolean reaches(ExecutableElement from, ExecutableElement to, Set<ExecutableElement> seen) {
        for (ExecutableElement next : calls.getOrDefault(from, Set.of())) {
            if (next.equals(to) || seen.add(next) && reaches(next, to, seen)) {
                return true;
            }
        }
        return false;
    }

    /** How many methods stand open at most, the library's own too, each that stands open already counted once. */
    private int depth(ExecutableElement m, Set<ExecutableElement> open) {
        int deepest = callsLibrary.contains(m) ? 1 : 0;
        open.add(m);
        for (ExecutableElement next : calls.getOrDefault(m, Set.of())) {
            if (!open.contains(next)) {
                deepest = Math.max(deepest, depth(next, open));
            }
        }
        open.remove(m);
        return deepest + 1;
    }
}
