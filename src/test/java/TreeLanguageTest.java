import com.sun.source.tree.ArrayAccessTree;
import com.sun.source.tree.AssertTree;
import com.sun.source.tree.BinaryTree;
import com.sun.source.tree.BlockTree;
import com.sun.source.tree.ClassTree;
import com.sun.source.tree.CompilationUnitTree;
import com.sun.source.tree.CompoundAssignmentTree;
import com.sun.source.tree.ExpressionTree;
import com.sun.source.tree.IdentifierTree;
import com.sun.source.tree.LambdaExpressionTree;
import com.sun.source.tree.MemberReferenceTree;
import com.sun.source.tree.MethodInvocationTree;
import com.sun.source.tree.MethodTree;
import com.sun.source.tree.NewArrayTree;
import com.sun.source.tree.NewClassTree;
import com.sun.source.tree.SynchronizedTree;
import com.sun.source.tree.ThrowTree;
import com.sun.source.tree.Tree;
import com.sun.source.tree.TryTree;
import com.sun.source.tree.VariableTree;
import com.sun.source.util.JavacTask;
import com.sun.source.util.TreePath;
import com.sun.source.util.TreePathScanner;
import com.sun.source.util.Trees;
import java.io.IOException;
import java.nio.file.Path;
import java.util.ArrayDeque;
import java.util.Deque;
import java.util.HashMap;
import java.util.HashSet;
import java.util.List;
import java.util.Map;
import java.util.Set;
import java.util.TreeMap;
import java.util.TreeSet;
import javax.lang.model.element.Element;
import javax.lang.model.element.ElementKind;
import javax.lang.model.element.ExecutableElement;
import javax.lang.model.element.Modifier;
import javax.lang.model.element.VariableElement;
import javax.lang.model.type.ArrayType;
import javax.lang.model.type.TypeKind;
import javax.lang.model.type.TypeMirror;
import javax.tools.JavaCompiler;
import javax.tools.StandardJavaFileManager;
import javax.tools.ToolProvider;

/** Those rules of LANGUAGE.md that the compiler's own tree of the class can answer. */
public final class TreeLanguageTest extends TreePathScanner<Void, Void> {
    /** Rule 4, of what a text or a row may be asked; the static functions are looked at by their class. */
    private static final Set<String> LIBRARY = Set.of("String.length", "String.charAt", "String.isEmpty",
        "String.equals", "String.indexOf", "String.substring", "String.toCharArray", "System.arraycopy",
        "Arrays.copyOf", "Arrays.copyOfRange", "Arrays.fill");

    private static final Set<String> NUMBER_CLASSES = Set.of("Math", "Integer", "Long");

    private static final int MOST_DEEP = 8;

    private final Trees trees;
    private final Map<String, Set<String>> calls = new TreeMap<>();
    private final Map<String, ExecutableElement> methods = new HashMap<>();
    private final Set<Tree> constructors = new HashSet<>();

    private TreeLanguageTest(Trees trees) {
        this.trees = trees;
    }

    public static void main(String[] args) throws IOException {
        JavaCompiler compiler = ToolProvider.getSystemJavaCompiler();
        StandardJavaFileManager files = compiler.getStandardFileManager(null, null, null);
        JavacTask task = (JavacTask) compiler.getTask(null, files, null, List.of("--release", "17", "-proc:none"),
            null, files.getJavaFileObjects(Path.of("src/main/java/DiscCutter.java")));
        Iterable<? extends CompilationUnitTree> units = task.parse();
        task.analyze();
        TreeLanguageTest test = new TreeLanguageTest(Trees.instance(task));
        for (CompilationUnitTree unit : units) {
            test.scan(unit, null);
        }
        test.recursion();
        test.depth();
        Due.due("methods were found: " + test.methods.size(), test.methods.size() > 100, true);
        Due.end();
    }

    private static void never(String rule, Object what) {
        Due.due("rule " + rule + ": " + what, true, false);
    }

    private static void must(String rule, Object what, boolean holds) {
        Due.due("rule " + rule + ": " + what, holds, true);
    }

    private Element elementHere() {
        return trees.getElement(getCurrentPath());
    }

    private TypeMirror typeOf(Tree tree) {
        return trees.getTypeMirror(new TreePath(getCurrentPath(), tree));
    }

    private static boolean isOwn(Element e) {
        Element at = e;
        while (at != null && !at.getSimpleName().contentEquals("DiscCutter")) {
            at = at.getEnclosingElement();
        }
        return at != null;
    }

    private static String nameOf(ExecutableElement m) {
        return m.getEnclosingElement().getSimpleName() + "." + m;
    }

    private ExecutableElement around() {
        for (TreePath p = getCurrentPath(); p != null; p = p.getParentPath()) {
            if (p.getLeaf() instanceof MethodTree) {
                return (ExecutableElement) trees.getElement(p);
            }
        }
        return null;
    }

    // ---- rules 2 and 6: what stands nowhere

    @Override
    public Void visitClass(ClassTree tree, Void v) {
        Element c = elementHere();
        boolean outermost = c.getSimpleName().contentEquals("DiscCutter");
        must("2", c + " is static", outermost || c.getModifiers().contains(Modifier.STATIC));
        must("2", c + " stands in a class", outermost || c.getEnclosingElement().getKind() == ElementKind.CLASS);
        for (Tree member : tree.getMembers()) {
            must("5", "no block beside methods in " + c, !(member instanceof BlockTree));
        }
        return super.visitClass(tree, v);
    }

    @Override
    public Void visitLambdaExpression(LambdaExpressionTree tree, Void v) {
        never("2", tree);
        return super.visitLambdaExpression(tree, v);
    }

    @Override
    public Void visitMemberReference(MemberReferenceTree tree, Void v) {
        never("2", tree);
        return super.visitMemberReference(tree, v);
    }

    @Override
    public Void visitThrow(ThrowTree tree, Void v) {
        never("6", tree);
        return super.visitThrow(tree, v);
    }

    @Override
    public Void visitTry(TryTree tree, Void v) {
        never("6", tree);
        return super.visitTry(tree, v);
    }

    @Override
    public Void visitSynchronized(SynchronizedTree tree, Void v) {
        never("6", tree);
        return super.visitSynchronized(tree, v);
    }

    @Override
    public Void visitAssert(AssertTree tree, Void v) {
        never("6", tree);
        return super.visitAssert(tree, v);
    }

    // ---- rules 3 and 5: types and static fields

    @Override
    public Void visitVariable(VariableTree tree, Void v) {
        VariableElement e = (VariableElement) elementHere();
        must("3", tree + " is of a type that is allowed", isAllowed(e.asType(), 0));
        if (e.getKind() == ElementKind.FIELD && e.getModifiers().contains(Modifier.STATIC)) {
            must("5", tree + " is a constant", e.getModifiers().contains(Modifier.FINAL)
                && e.getConstantValue() != null);
        }
        return super.visitVariable(tree, v);
    }

    private boolean isAllowed(TypeMirror type, int dimensions) {
        if (type.getKind() == TypeKind.ARRAY) {
            return dimensions < 2 && isAllowed(((ArrayType) type).getComponentType(), dimensions + 1);
        }
        if (type.getKind().isPrimitive()) {
            return dimensions < 2 || type.getKind() != TypeKind.BOOLEAN;
        }
        String name = type.toString();
        return dimensions < 2 && name.startsWith("DiscCutter")
            || dimensions == 0 && (name.equals("java.lang.String") || name.equals("java.lang.StringBuilder"));
    }

    // ---- rules 4, 7, 10, 12: calls, divisors, texts, objects

    @Override
    public Void visitMethod(MethodTree tree, Void v) {
        ExecutableElement m = (ExecutableElement) elementHere();
        methods.put(nameOf(m), m);
        calls.computeIfAbsent(nameOf(m), k -> new TreeSet<>());
        if (m.getKind() == ElementKind.CONSTRUCTOR) {
            constructors.add(tree);
        }
        return super.visitMethod(tree, v);
    }

    @Override
    public Void visitMethodInvocation(MethodInvocationTree tree, Void v) {
        ExecutableElement called = (ExecutableElement) elementHere();
        if (called.getKind() == ElementKind.CONSTRUCTOR) {
            return super.visitMethodInvocation(tree, v);
        }
        if (isOwn(called)) {
            calls.computeIfAbsent(nameOf(around()), k -> new TreeSet<>()).add(nameOf(called));
        } else {
            String owner = called.getEnclosingElement().getSimpleName().toString();
            String name = owner + "." + called.getSimpleName();
            boolean ofNumbers = NUMBER_CLASSES.contains(owner) && called.getModifiers().contains(Modifier.STATIC)
                && !name.endsWith("Exact");
            must("4", name + " is of the library that is left", ofNumbers || LIBRARY.contains(name));
        }
        return super.visitMethodInvocation(tree, v);
    }

    @Override
    public Void visitBinary(BinaryTree tree, Void v) {
        if (tree.getKind() == Tree.Kind.DIVIDE || tree.getKind() == Tree.Kind.REMAINDER) {
            divisor(tree, tree.getRightOperand());
        }
        if (tree.getKind() == Tree.Kind.PLUS) {
            must("10", tree + " joins no texts", typeOf(tree).getKind().isPrimitive());
        }
        if (tree.getKind() == Tree.Kind.EQUAL_TO || tree.getKind() == Tree.Kind.NOT_EQUAL_TO) {
            must("6", tree + " is not between texts", !typeOf(tree.getLeftOperand()).toString().endsWith("String"));
        }
        return super.visitBinary(tree, v);
    }

    @Override
    public Void visitCompoundAssignment(CompoundAssignmentTree tree, Void v) {
        if (tree.getKind() == Tree.Kind.DIVIDE_ASSIGNMENT || tree.getKind() == Tree.Kind.REMAINDER_ASSIGNMENT) {
            divisor(tree, tree.getExpression());
        }
        return super.visitCompoundAssignment(tree, v);
    }

    /** A constant that isn't 0, or one of the two that the lines around look at ahead. */
    private void divisor(Tree whole, ExpressionTree by) {
        boolean looked = by.toString().equals("beat") && around().getSimpleName().contentEquals("inTime")
            || by.toString().equals("(step.fade + 1)") && around().getSimpleName().contentEquals("layStretch");
        must("7", "the divisor of " + whole + " is looked at", looked || isConstant(by));
    }

    private boolean isConstant(ExpressionTree by) {
        if (!(by instanceof IdentifierTree)) {
            return false;
        }
        Element e = trees.getElement(new TreePath(getCurrentPath(), by));
        return e instanceof VariableElement && ((VariableElement) e).getConstantValue() instanceof Integer
            && (Integer) ((VariableElement) e).getConstantValue() > 0;
    }

    @Override
    public Void visitNewClass(NewClassTree tree, Void v) {
        must("2", tree + " has no body", tree.getClassBody() == null);
        must("12", tree + " stands in a constructor", isInConstructor());
        return super.visitNewClass(tree, v);
    }

    @Override
    public Void visitNewArray(NewArrayTree tree, Void v) {
        must("12", tree + " stands in a constructor", isInConstructor());
        return super.visitNewArray(tree, v);
    }

    private boolean isInConstructor() {
        for (TreePath p = getCurrentPath(); p != null; p = p.getParentPath()) {
            if (constructors.contains(p.getLeaf())) {
                return true;
            }
        }
        return false;
    }

    @Override
    public Void visitIdentifier(IdentifierTree tree, Void v) {
        if (tree.getName().contentEquals("this") && isInConstructor()) {
            never("12", "a constructor that hands out what it makes");
        }
        return super.visitIdentifier(tree, v);
    }

    @Override
    public Void visitArrayAccess(ArrayAccessTree tree, Void v) {
        must("3", tree.getIndex() + " is an int", typeOf(tree.getIndex()).getKind().isPrimitive());
        return super.visitArrayAccess(tree, v);
    }

    // ---- rules 8 and 11: what calls itself, and how deep calls go

    private Set<String> reachedFrom(String name) {
        Set<String> seen = new TreeSet<>();
        Deque<String> open = new ArrayDeque<>(calls.get(name));
        while (!open.isEmpty()) {
            String next = open.poll();
            if (seen.add(next)) {
                open.addAll(calls.get(next));
            }
        }
        return seen;
    }

    private void recursion() {
        int found = 0;
        for (String name : calls.keySet()) {
            if (!reachedFrom(name).contains(name)) {
                continue;
            }
            found++;
            ExecutableElement m = methods.get(name);
            must("8", name + " calls itself and is private", m.getModifiers().contains(Modifier.PRIVATE));
            if (calls.get(name).contains(name)) {
                must("8", name + " calls itself straight and is static",
                    m.getModifiers().contains(Modifier.STATIC));
            }
            boolean carried = false;
            for (VariableElement p : m.getParameters()) {
                carried |= p.getSimpleName().contentEquals("depth") || p.getSimpleName().contentEquals("used");
            }
            must("8", name + " carries its depth", carried);
        }
        Due.due("rule 8: methods that call themselves were found: " + found, found >= 3, true);
    }

    private void depth() {
        for (String name : calls.keySet()) {
            if (methods.get(name).getModifiers().contains(Modifier.PUBLIC)) {
                int deep = deepest(name, new HashSet<>());
                must("11", name + " goes at most eight deep: " + deep, deep <= MOST_DEEP);
            }
        }
    }

    /** The most methods that stand open at once, each of them counted once. */
    private int deepest(String name, Set<String> open) {
        if (!open.add(name)) {
            return 0;
        }
        int most = 0;
        for (String next : calls.get(name)) {
            most = Math.max(most, deepest(next, open));
        }
        open.remove(name);
        return most + 1;
    }
}
