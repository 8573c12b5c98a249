import com.sun.source.tree.AssertTree;
import com.sun.source.tree.BinaryTree;
import com.sun.source.tree.BlockTree;
import com.sun.source.tree.ClassTree;
import com.sun.source.tree.CompilationUnitTree;
import com.sun.source.tree.CompoundAssignmentTree;
import com.sun.source.tree.ConditionalExpressionTree;
import com.sun.source.tree.DoWhileLoopTree;
import com.sun.source.tree.EnhancedForLoopTree;
import com.sun.source.tree.ForLoopTree;
import com.sun.source.tree.InstanceOfTree;
import com.sun.source.tree.LambdaExpressionTree;
import com.sun.source.tree.MemberReferenceTree;
import com.sun.source.tree.MethodInvocationTree;
import com.sun.source.tree.MethodTree;
import com.sun.source.tree.NewArrayTree;
import com.sun.source.tree.NewClassTree;
import com.sun.source.tree.SynchronizedTree;
import com.sun.source.tree.ThrowTree;
import com.sun.source.tree.Tree;
import com.sun.source.tree.TryTree;
import com.sun.source.tree.TypeCastTree;
import com.sun.source.tree.VariableTree;
import com.sun.source.tree.WhileLoopTree;
import com.sun.source.util.JavacTask;
import com.sun.source.util.TreePath;
import com.sun.source.util.TreePathScanner;
import com.sun.source.util.Trees;
import java.nio.file.Files;
import java.nio.file.Path;
import java.util.LinkedHashMap;
import java.util.LinkedHashSet;
import java.util.List;
import java.util.Map;
import java.util.Set;
import javax.lang.model.element.Element;
import javax.lang.model.element.ElementKind;
import javax.lang.model.element.ExecutableElement;
import javax.lang.model.element.Modifier;
import javax.lang.model.type.ArrayType;
import javax.lang.model.type.TypeKind;
import javax.lang.model.type.TypeMirror;
import javax.tools.JavaCompiler;
import javax.tools.StandardJavaFileManager;
import javax.tools.ToolProvider;

/** The rules of LANGUAGE.md over the tree that the compiler makes of WireMill.java; FaceTest has rule 1. */
public final class LanguageTest extends TreePathScanner<Void, Void> {
    private static final Path SOURCE = Path.of("src/main/java/WireMill.java");
    private static final Set<String> LIBRARY = Set.of("java.lang.Math", "java.lang.Integer", "java.lang.Long");
    private static final int MOST_LINES = 60, MOST_DEEP = 8, MOST_CLASSES = 12, MOST_FIELDS = 20, MOST_PARAMETERS = 7;

    private final Checks checks = new Checks();
    private final Map<String, Set<String>> calls = new LinkedHashMap<>();
    private final Map<String, List<? extends VariableTree>> parameters = new LinkedHashMap<>();
    private final Trees trees;
    private final CompilationUnitTree unit;
    private int classes;

    private LanguageTest(Trees trees, CompilationUnitTree unit) {
        this.trees = trees;
        this.unit = unit;
    }

    public static void main(String[] args) throws Exception {
        JavaCompiler compiler = ToolProvider.getSystemJavaCompiler();
        try (StandardJavaFileManager files = compiler.getStandardFileManager(null, null, null)) {
            JavacTask task = (JavacTask) compiler.getTask(null, files, null, List.of("-proc:none"),
                    null, files.getJavaFileObjects(SOURCE));
            CompilationUnitTree unit = task.parse().iterator().next();
            task.analyze();
            new LanguageTest(Trees.instance(task), unit).run();
        }
    }

    private void run() throws Exception {
        checks.holds("no package line", unit.getPackageName() == null);
        checks.holds("rule 4: no import", unit.getImports().isEmpty());
        checks.holds("one class in the file", unit.getTypeDecls().size() == 1);
        checks.holds("rule 3: characters up to 255", Files.readString(SOURCE).chars().allMatch(c -> c < 256));
        scan(unit, null);
        checks.holds("rule 11: " + classes + " classes", classes <= MOST_CLASSES);
        for (String method : calls.keySet()) checkCalls(method);
        checks.end();
    }

    // ---- what the rules leave out

    private Void never(int rule, Tree tree) {
        checks.holds("rule " + rule + ": no " + tree, false);
        return null;
    }

    @Override public Void visitLambdaExpression(LambdaExpressionTree tree, Void v) { return never(2, tree); }
    @Override public Void visitMemberReference(MemberReferenceTree tree, Void v) { return never(2, tree); }
    @Override public Void visitThrow(ThrowTree tree, Void v) { return never(6, tree); }
    @Override public Void visitTry(TryTree tree, Void v) { return never(6, tree); }
    @Override public Void visitSynchronized(SynchronizedTree tree, Void v) { return never(6, tree); }
    @Override public Void visitAssert(AssertTree tree, Void v) { return never(6, tree); }

    // ---- what WireMill does not need, so that nothing finer has to be looked at

    @Override public Void visitInstanceOf(InstanceOfTree tree, Void v) { return never(6, tree); }
    @Override public Void visitWhileLoop(WhileLoopTree tree, Void v) { return never(9, tree); }
    @Override public Void visitDoWhileLoop(DoWhileLoopTree tree, Void v) { return never(9, tree); }
    @Override public Void visitEnhancedForLoop(EnhancedForLoopTree tree, Void v) { return never(9, tree); }

    // ---- classes and fields

    @Override public Void visitClass(ClassTree tree, Void v) {
        classes++;
        Element of = trees.getElement(getCurrentPath());
        Tree around = getCurrentPath().getParentPath().getLeaf();
        boolean isInside = around instanceof ClassTree;
        checks.holds("rule 2: a plain class " + tree.getSimpleName(), tree.getKind() == Tree.Kind.CLASS);
        checks.holds("rule 2: neither local nor anonymous " + tree.getSimpleName(),
                isInside || around instanceof CompilationUnitTree);
        checks.holds("rule 2: static " + tree.getSimpleName(), !isInside || of.getModifiers().contains(Modifier.STATIC));
        int fields = 0;
        for (Tree member : tree.getMembers()) {
            checks.holds("rule 5: no block", !(member instanceof BlockTree));
            if (!(member instanceof VariableTree)) continue;
            if (isStatic(member)) checkConstant((VariableTree) member);
            else fields++;
        }
        checks.holds("rule 11: " + fields + " fields of " + tree.getSimpleName(), fields <= MOST_FIELDS);
        return super.visitClass(tree, v);
    }

    private boolean isStatic(Tree member) {
        return trees.getElement(new TreePath(getCurrentPath(), member)).getModifiers().contains(Modifier.STATIC);
    }

    private void checkConstant(VariableTree field) {
        boolean isFinal = field.getModifiers().getFlags().contains(Modifier.FINAL);
        boolean isNumber = field.getType().toString().equals("int");
        boolean isRow = field.getType().toString().equals("int[]") && field.getInitializer() instanceof NewArrayTree
                && ((NewArrayTree) field.getInitializer()).getInitializers() != null;
        checks.holds("rule 5: constant " + field, isFinal && (isNumber || isRow));
    }

    @Override public Void visitVariable(VariableTree tree, Void v) {
        checkType(trees.getTypeMirror(new TreePath(getCurrentPath(), tree.getType())));
        return super.visitVariable(tree, v);
    }

    private void checkType(TypeMirror type) {
        TypeMirror of = type.getKind() == TypeKind.ARRAY ? ((ArrayType) type).getComponentType() : type;
        boolean isWhole = of.getKind().isPrimitive() && of.getKind() != TypeKind.DOUBLE && of.getKind() != TypeKind.FLOAT;
        checks.holds("rule 3: type " + type, isWhole || type.getKind() == TypeKind.VOID || isOwn(of.toString()));
    }

    private static boolean isOwn(String type) {
        return type.equals("WireMill") || type.startsWith("WireMill.");
    }

    // ---- methods and what they do

    @Override public Void visitMethod(MethodTree tree, Void v) {
        String name = trees.getElement(getCurrentPath()).getEnclosingElement() + "." + tree.getName();
        checks.holds("only one method is " + name, !parameters.containsKey(name));
        parameters.put(name, tree.getParameters());
        calls.putIfAbsent(name, new LinkedHashSet<>());
        Tree answer = tree.getReturnType();
        if (answer != null) checkType(trees.getTypeMirror(new TreePath(getCurrentPath(), answer)));
        checks.holds("rule 11: parameters of " + name, tree.getParameters().size() <= MOST_PARAMETERS);
        long lines = lineOf(trees.getSourcePositions().getEndPosition(unit, tree))
                - lineOf(trees.getSourcePositions().getStartPosition(unit, tree)) + 1;
        checks.holds("rule 11: " + lines + " lines of " + name, lines <= MOST_LINES);
        return super.visitMethod(tree, v);
    }

    private long lineOf(long position) {
        return position < 0 ? 0 : unit.getLineMap().getLineNumber(position);
    }

    @Override public Void visitMethodInvocation(MethodInvocationTree tree, Void v) {
        addCall((ExecutableElement) trees.getElement(getCurrentPath()));
        return super.visitMethodInvocation(tree, v);
    }

    @Override public Void visitNewClass(NewClassTree tree, Void v) {
        addCall((ExecutableElement) trees.getElement(getCurrentPath()));
        return super.visitNewClass(tree, v);
    }

    private void addCall(ExecutableElement called) {
        String owner = called.getEnclosingElement().toString();
        String name = called.getSimpleName().toString();
        boolean isListed = LIBRARY.contains(owner) && !name.endsWith("Exact");
        boolean isSuper = owner.equals("java.lang.Object") && called.getKind() == ElementKind.CONSTRUCTOR;
        checks.holds("rule 4: " + owner + "." + name, isOwn(owner) || isListed || isSuper);
        if (!isSuper) calls.computeIfAbsent(here(), any -> new LinkedHashSet<>()).add(owner + "." + name);
    }

    /** The method around this place; what a field begins with is done by the constructor. */
    private String here() {
        TreePath path = getCurrentPath();
        while (path.getLeaf().getKind() != Tree.Kind.METHOD && path.getLeaf().getKind() != Tree.Kind.CLASS) {
            path = path.getParentPath();
        }
        Element found = trees.getElement(path);
        return found.getKind().isClass() ? found + ".<init>" : found.getEnclosingElement() + "." + found.getSimpleName();
    }

    @Override public Void visitForLoop(ForLoopTree tree, Void v) {
        String text = tree.toString();
        String update = tree.getUpdate().size() == 1 ? tree.getUpdate().get(0).getExpression().toString() : "";
        boolean counts = tree.getInitializer().size() == 1 && tree.getCondition() != null && update.matches("\\w+\\+\\+");
        checks.holds("rule 9: a counter for " + text, counts);
        if (!counts) return null;
        String counter = update.replace("++", "");
        checks.holds("rule 9: a bound for " + text, tree.getCondition().toString().matches(counter + " <=? .*"));
        checks.holds("rule 9: the counter stays as it is inside " + text, !tree.getStatement().toString()
                .matches("(?s).*\\b" + counter + " ?([-+*/%|&^]?=[^=]|\\+\\+|--).*"));
        return super.visitForLoop(tree, v);
    }

    /** A divisor that is no constant is looked at ahead of ?, in the loop's head, or is one more than a counter from 0. */
    @Override public Void visitBinary(BinaryTree tree, Void v) {
        boolean divides = tree.getKind() == Tree.Kind.DIVIDE || tree.getKind() == Tree.Kind.REMAINDER;
        if (divides) checkDivisor(tree.getRightOperand().toString());
        return super.visitBinary(tree, v);
    }

    @Override public Void visitCompoundAssignment(CompoundAssignmentTree tree, Void v) {
        boolean divides = tree.getKind() == Tree.Kind.DIVIDE_ASSIGNMENT || tree.getKind() == Tree.Kind.REMAINDER_ASSIGNMENT;
        checks.holds("rule 7: no " + tree, !divides);
        return super.visitCompoundAssignment(tree, v);
    }

    private void checkDivisor(String divisor) {
        boolean isConstant = divisor.matches("[1-9][0-9]*|PRICE_OF_FIRE|MARKS_OF_PRICE|BASE");
        checks.holds("rule 7: divisor " + divisor + " in " + here(), isConstant || isLookedAt(divisor));
    }

    private boolean isLookedAt(String divisor) {
        for (Tree around : getCurrentPath()) {
            if (around instanceof ConditionalExpressionTree
                    && ((ConditionalExpressionTree) around).getCondition().toString().equals(divisor + " == 0")) return true;
            if (!(around instanceof ForLoopTree)) continue;
            ForLoopTree loop = (ForLoopTree) around;
            if (loop.getCondition().toString().endsWith("&& " + divisor + " != 0")) return true;
            String counter = ((VariableTree) loop.getInitializer().get(0)).getName().toString();
            if (divisor.equals("(" + counter + " + 1)") && loop.getInitializer().toString().endsWith(" = 0")) return true;
        }
        return false;
    }

    @Override public Void visitTypeCast(TypeCastTree tree, Void v) {
        checks.holds("rule 6: cast " + tree, tree.getType().toString().matches("int|long"));
        return super.visitTypeCast(tree, v);
    }

    // ---- calls within calls

    private void checkCalls(String method) {
        checks.holds("rule 11: " + method + " goes " + deepest(method, new LinkedHashSet<>()),
                deepest(method, new LinkedHashSet<>()) <= MOST_DEEP);
        if (!calls.get(method).contains(method)) return;
        boolean carriesDepth = parameters.get(method).stream().anyMatch(p -> p.getName().contentEquals("depth"));
        checks.holds("rule 8: " + method + " carries its depth", carriesDepth);
    }

    /** How many calls stand open at most, a method that calls itself counted once. */
    private int deepest(String method, Set<String> open) {
        int below = 0;
        open.add(method);
        for (String next : calls.getOrDefault(method, Set.of())) {
            if (next.equals(method)) continue;
            checks.holds("rule 8: no ring of " + open + " and " + next, !open.contains(next));
            if (!open.contains(next)) below = Math.max(below, deepest(next, open));
        }
        open.remove(method);
        return below + 1;
    }
}
