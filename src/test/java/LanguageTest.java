import com.sun.source.tree.*;
import com.sun.source.util.JavacTask;
import com.sun.source.util.TreePath;
import com.sun.source.util.TreePathScanner;
import com.sun.source.util.Trees;
import java.io.IOException;
import java.nio.file.Files;
import java.nio.file.Path;
import java.util.ArrayList;
import java.util.LinkedHashMap;
import java.util.LinkedHashSet;
import java.util.List;
import java.util.Map;
import java.util.Set;
import javax.lang.model.element.Element;
import javax.lang.model.element.ElementKind;
import javax.lang.model.element.ExecutableElement;
import javax.lang.model.element.Modifier;
import javax.lang.model.type.ArrayType;
import javax.lang.model.type.TypeMirror;
import javax.tools.JavaCompiler;
import javax.tools.StandardJavaFileManager;
import javax.tools.ToolProvider;

/**
 * Those rules of ../shared/LANGUAGE.md that the compiler's own tree of the class shows. Narrower than the rules where the class
 * keeps to less: it takes no lists, no texts and no doubles, and makes objects in constructors alone.
 */
public final class LanguageTest extends TreePathScanner<Void, Void> {
    private static final Path FILE = Path.of("src/main/java/BarBehind.java");
    private static final Set<String> LIBRARY = Set.of("Math.abs", "Math.max", "Math.min", "Integer.bitCount",
            "Long.bitCount", "System.arraycopy", "Arrays.fill", "Object.<init>");
    private static final Set<String> NUMBERS = Set.of("int", "long", "short", "byte", "char", "boolean");
    private static final Set<String> CONSTANTS = Set.of("int", "long", "boolean", "char", "java.lang.String");
    private static final Set<String> CONSTANT_ARRAYS = Set.of("int", "long", "char", "byte");
    private static final int MOST_PARAMETERS = 7, MOST_LINES = 60, MOST_DEEP = 8, MOST_CLASSES = 12, MOST_FIELDS = 20;
    private static final Check c = new Check("LanguageTest");

    private final Trees trees;
    private final CompilationUnitTree unit;
    private final Map<Element, Set<Element>> calls = new LinkedHashMap<>();
    private int classes = 0;

    private LanguageTest(Trees trees, CompilationUnitTree unit) {
        this.trees = trees;
        this.unit = unit;
    }

    public static void main(String[] args) throws IOException {
        for (int sign : Files.readAllBytes(FILE)) holds("3: a sign from 1 to 127, not " + sign, sign > 0);
        JavaCompiler compiler = ToolProvider.getSystemJavaCompiler();
        try (StandardJavaFileManager files = compiler.getStandardFileManager(null, null, null)) {
            JavacTask task = (JavacTask) compiler.getTask(null, files, null, List.of("-proc:none"), null,
                    files.getJavaFileObjects(FILE));
            CompilationUnitTree unit = task.parse().iterator().next();
            task.analyze();
            LanguageTest test = new LanguageTest(Trees.instance(task), unit);
            test.scan(new TreePath(unit), null);
            test.end();
        }
        c.end();
    }

    private static void holds(String what, boolean so) {
        c.due("rule " + what, so ? 1 : 0, 1);
    }

    private void holds(String what, Tree where, boolean so) {
        long at = trees.getSourcePositions().getStartPosition(unit, where);
        holds(what + " (line " + unit.getLineMap().getLineNumber(at) + ")", so);
    }

    private long lineAt(long position) {
        return unit.getLineMap().getLineNumber(position);
    }

    private Element element() {
        return trees.getElement(getCurrentPath());
    }

    private TypeMirror type() {
        return trees.getTypeMirror(getCurrentPath());
    }

    private static boolean isStatic(Element element) {
        return element.getModifiers().contains(Modifier.STATIC);
    }

    private static boolean isOwn(Element element) {
        Element outer = element;
        while (outer.getEnclosingElement().getKind() != ElementKind.PACKAGE) outer = outer.getEnclosingElement();
        return outer.getSimpleName().contentEquals("BarBehind");
    }

    private Element method() {
        TreePath path = getCurrentPath();
        while (path != null && path.getLeaf().getKind() != Tree.Kind.METHOD) path = path.getParentPath();
        return path == null ? null : trees.getElement(path);
    }

    // ---- the file and its classes

    @Override
    public Void visitCompilationUnit(CompilationUnitTree node, Void unused) {
        holds("0: no package line", node.getPackageName() == null);
        holds("0: one class in the file", node.getTypeDecls().size() == 1);
        return super.visitCompilationUnit(node, unused);
    }

    @Override
    public Void visitImport(ImportTree node, Void unused) {
        holds("4: imports", node, node.toString().strip().equals("import java.util.Arrays;"));
        return super.visitImport(node, unused);
    }

    @Override
    public Void visitClass(ClassTree node, Void unused) {
        classes++;
        Element own = element();
        boolean isFace = own.getEnclosingElement().getKind() == ElementKind.PACKAGE;
        Set<Modifier> modifiers = own.getModifiers();
        if (isFace) holds("1: public and final", modifiers.containsAll(Set.of(Modifier.PUBLIC, Modifier.FINAL)));
        else {
            holds("2: classes stand in classes", node, own.getEnclosingElement().getKind().isClass());
            holds("2: static", node, modifiers.contains(Modifier.STATIC));
            holds("1: private or package-visible", node,
                    !modifiers.contains(Modifier.PUBLIC) && !modifiers.contains(Modifier.PROTECTED));
        }
        long fields = own.getEnclosedElements().stream().filter(e -> e.getKind().isField() && !isStatic(e)).count();
        holds("11: some twenty fields", node, fields <= MOST_FIELDS);
        return super.visitClass(node, unused);
    }

    // ---- methods, and what they call

    @Override
    public Void visitMethod(MethodTree node, Void unused) {
        Element own = element();
        calls.putIfAbsent(own, new LinkedHashSet<>());
        holds("11: at most seven parameters", node, node.getParameters().size() <= MOST_PARAMETERS);
        holds("6: nothing is thrown", node, node.getThrows().isEmpty());
        long from = trees.getSourcePositions().getStartPosition(unit, node);
        long till = trees.getSourcePositions().getEndPosition(unit, node);
        // A constructor that nobody wrote has no end.
        if (till >= 0) holds("11: short", node, lineAt(till) - lineAt(from) < MOST_LINES);
        return super.visitMethod(node, unused);
    }

    private void called(Tree node, Element callee) {
        Element caller = method();
        String name = callee.getEnclosingElement().getSimpleName() + "." + callee.getSimpleName();
        if (!isOwn(callee)) holds("4: " + name, node, LIBRARY.contains(name));
        else if (caller != null) calls.computeIfAbsent(caller, k -> new LinkedHashSet<>()).add(callee);
    }

    @Override
    public Void visitMethodInvocation(MethodInvocationTree node, Void unused) {
        called(node, element());
        return super.visitMethodInvocation(node, unused);
    }

    @Override
    public Void visitNewClass(NewClassTree node, Void unused) {
        called(node, element());
        holds("2: no anonymous class", node, node.getClassBody() == null);
        made(node);
        return super.visitNewClass(node, unused);
    }

    @Override
    public Void visitNewArray(NewArrayTree node, Void unused) {
        made(node);
        return super.visitNewArray(node, unused);
    }

    private void made(Tree node) {
        Element where = method();
        holds("12: made by a constructor or a field alone", node,
                where == null || where.getKind() == ElementKind.CONSTRUCTOR);
    }

    // ---- fields and types

    @Override
    public Void visitVariable(VariableTree node, Void unused) {
        Element own = element();
        TypeMirror type = own.asType();
        holds("3: the type " + type, node, isAllowed(type));
        if (own.getKind().isField() && isStatic(own)) {
            holds("5: final", node, own.getModifiers().contains(Modifier.FINAL));
            boolean written = node.getInitializer() instanceof NewArrayTree made && made.getInitializers() != null;
            holds("5: a constant", node, type instanceof ArrayType array
                    ? CONSTANT_ARRAYS.contains(array.getComponentType().toString()) && written
                    : CONSTANTS.contains(type.toString()));
        }
        return super.visitVariable(node, unused);
    }

    private static boolean isAllowed(TypeMirror type) {
        TypeMirror inner = type;
        for (int deep = 0; deep < 2 && inner instanceof ArrayType array; deep++) inner = array.getComponentType();
        return NUMBERS.contains(inner.toString()) || inner == type && type.toString().startsWith("BarBehind.");
    }

    private void changed(Tree node, ExpressionTree target) {
        if (!(target instanceof ArrayAccessTree access)) return;
        Element array = trees.getElement(new TreePath(getCurrentPath(), access.getExpression()));
        holds("5: a constant array is never changed", node, array == null || !isStatic(array));
    }

    @Override
    public Void visitAssignment(AssignmentTree node, Void unused) {
        changed(node, node.getVariable());
        return super.visitAssignment(node, unused);
    }

    @Override
    public Void visitCompoundAssignment(CompoundAssignmentTree node, Void unused) {
        changed(node, node.getVariable());
        return super.visitCompoundAssignment(node, unused);
    }

    @Override
    public Void visitTypeCast(TypeCastTree node, Void unused) {
        holds("6: casts of numbers alone", node, NUMBERS.contains(type().toString()));
        return super.visitTypeCast(node, unused);
    }

    // ---- what is ruled out

    private Void ruledOut(String rule, Tree node) {
        holds(rule, node, false);
        return null;
    }

    @Override
    public Void visitLambdaExpression(LambdaExpressionTree node, Void unused) {
        return ruledOut("2: no lambda", node);
    }

    @Override
    public Void visitMemberReference(MemberReferenceTree node, Void unused) {
        return ruledOut("2: no method reference", node);
    }

    @Override
    public Void visitThrow(ThrowTree node, Void unused) {
        return ruledOut("6: no throw", node);
    }

    @Override
    public Void visitTry(TryTree node, Void unused) {
        return ruledOut("6: no try", node);
    }

    @Override
    public Void visitSynchronized(SynchronizedTree node, Void unused) {
        return ruledOut("6: no synchronized", node);
    }

    @Override
    public Void visitAssert(AssertTree node, Void unused) {
        return ruledOut("6: no assert", node);
    }

    @Override
    public Void visitBlock(BlockTree node, Void unused) {
        boolean initialises = getCurrentPath().getParentPath().getLeaf() instanceof ClassTree;
        holds("5: no initialiser block", node, !initialises);
        return super.visitBlock(node, unused);
    }

    @Override
    public Void visitLiteral(LiteralTree node, Void unused) {
        holds("3: no text is used", node, node.getKind() != Tree.Kind.STRING_LITERAL);
        return super.visitLiteral(node, unused);
    }

    @Override
    public Void visitForLoop(ForLoopTree node, Void unused) {
        holds("9: an end that can be seen", node, node.getCondition() instanceof BinaryTree);
        return super.visitForLoop(node, unused);
    }

    @Override
    public Void visitWhileLoop(WhileLoopTree node, Void unused) {
        ExpressionTree inside = ((ParenthesizedTree) node.getCondition()).getExpression();
        holds("9: an end that can be seen", node, inside instanceof BinaryTree);
        return super.visitWhileLoop(node, unused);
    }

    // ---- when all is seen

    private void end() {
        holds("11: some twelve classes", classes <= MOST_CLASSES);
        int deepest = 0;
        for (Element method : calls.keySet()) deepest = Math.max(deepest, depth(method, new ArrayList<>()));
        holds("11: calls go at most eight deep, not " + deepest, deepest <= MOST_DEEP);
        holds("0: the methods are seen", calls.size() > 49);
    }

    /** How many calls stand open at most; one that calls itself counts once and carries its depth. */
    private int depth(Element method, List<Element> open) {
        holds("8: no circle of calls from " + method, !open.contains(method));
        if (open.contains(method)) return 0;
        open.add(method);
        int deepest = 0;
        for (Element callee : calls.getOrDefault(method, Set.of())) {
            if (callee.equals(method)) carriesDepth((ExecutableElement) method);
            else deepest = Math.max(deepest, depth(callee, open));
        }
        open.remove(open.size() - 1);
        return deepest + 1;
    }

    private static void carriesDepth(ExecutableElement method) {
        // leastSet takes one PLACE less each time, three at most.
        holds("8: recursion of " + method, method.getSimpleName().contentEquals("leastSet"));
    }
}
