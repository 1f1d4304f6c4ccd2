import com.sun.source.tree.AnnotationTree;
import com.sun.source.tree.AssertTree;
import com.sun.source.tree.AssignmentTree;
import com.sun.source.tree.BinaryTree;
import com.sun.source.tree.BlockTree;
import com.sun.source.tree.CatchTree;
import com.sun.source.tree.ClassTree;
import com.sun.source.tree.CompilationUnitTree;
import com.sun.source.tree.CompoundAssignmentTree;
import com.sun.source.tree.ExpressionTree;
import com.sun.source.tree.ImportTree;
import com.sun.source.tree.InstanceOfTree;
import com.sun.source.tree.LambdaExpressionTree;
import com.sun.source.tree.LiteralTree;
import com.sun.source.tree.MemberReferenceTree;
import com.sun.source.tree.MethodInvocationTree;
import com.sun.source.tree.MethodTree;
import com.sun.source.tree.NewArrayTree;
import com.sun.source.tree.NewClassTree;
import com.sun.source.tree.SwitchExpressionTree;
import com.sun.source.tree.SynchronizedTree;
import com.sun.source.tree.ThrowTree;
import com.sun.source.tree.Tree;
import com.sun.source.tree.TryTree;
import com.sun.source.tree.TypeCastTree;
import com.sun.source.tree.UnaryTree;
import com.sun.source.tree.VariableTree;
import com.sun.source.util.JavacTask;
import com.sun.source.util.TreePath;
import com.sun.source.util.TreePathScanner;
import com.sun.source.util.Trees;
import java.io.File;
import java.io.IOException;
import java.nio.file.Files;
import java.util.ArrayDeque;
import java.util.Deque;
import java.util.HashMap;
import java.util.LinkedHashSet;
import java.util.List;
import java.util.Map;
import java.util.Set;
import javax.lang.model.element.Element;
import javax.lang.model.element.ElementKind;
import javax.lang.model.element.ExecutableElement;
import javax.lang.model.element.Modifier;
import javax.lang.model.element.TypeElement;
import javax.lang.model.type.TypeKind;
import javax.lang.model.type.TypeMirror;
import javax.tools.JavaCompiler;
import javax.tools.StandardJavaFileManager;
import javax.tools.ToolProvider;

/**
 * The class keeps to LANGUAGE.md, as far as its source tells: what it uses of the language and of the library, how long
 * and how deep it goes. Rules that leave more than the class needs are held to what it needs.
 */
public final class LanguageTest extends TreePathScanner<Void, Void> {
    private static final String SOURCE = "src/main/java/WalkingBridge.java";
    private static final Set<String> IMPORTS = Set.of("java.util.Arrays", "java.util.NoSuchElementException");
    private static final Set<String> LIBRARY = Set.of("String.length", "String.charAt", "Integer.bitCount", "Long.bitCount",
            "Math.min", "Math.max", "Math.abs", "Math.floorDiv", "Math.floorMod", "System.arraycopy", "Arrays.fill");
    private static final Set<String> THROWN = Set.of("IllegalStateException", "IllegalArgumentException",
            "IndexOutOfBoundsException", "ArithmeticException", "UnsupportedOperationException", "NoSuchElementException",
            "RuntimeException");
    private static final Set<TypeKind> NUMBERS = Set.of(TypeKind.INT, TypeKind.LONG, TypeKind.BOOLEAN, TypeKind.BYTE,
            TypeKind.CHAR, TypeKind.SHORT);
    private static final int MOST_CLASSES = 12;
    private static final int MOST_FIELDS = 20;
    private static final int MOST_ARGUMENTS = 7;
    private static final int MOST_METHOD_LINES = 60;
    private static final int DEEPEST = 8;

    private static int wrong = 0;

    private final Trees trees;
    private final CompilationUnitTree unit;
    private final Map<Element, Set<Element>> calls = new HashMap<>();
    private final Deque<Element> methods = new ArrayDeque<>();
    private int classes;

    private LanguageTest(Trees trees, CompilationUnitTree unit) {
        this.trees = trees;
        this.unit = unit;
    }

    public static void main(String[] args) throws IOException {
        JavaCompiler compiler = ToolProvider.getSystemJavaCompiler();
        try (StandardJavaFileManager files = compiler.getStandardFileManager(null, null, null)) {
            JavacTask task = (JavacTask) compiler.getTask(null, files, null, List.of("-proc:none"), null,
                    files.getJavaFileObjects(new File(args.length > 0 ? args[0] : SOURCE)));
            CompilationUnitTree unit = task.parse().iterator().next();
            task.analyze();
            new LanguageTest(Trees.instance(task), unit).run();
        }
        for (byte one : Files.readAllBytes(new File(args.length > 0 ? args[0] : SOURCE).toPath())) {
            need(one == '\n' || one >= ' ' && one < 127, 4, "a sign beyond 1 to 127");
        }
        System.out.println(wrong == 0 ? "the language is kept to" : wrong + " places are outside the language");
        if (wrong != 0) {
            System.exit(1);
        }
    }

    private void run() {
        need(unit.getPackageName() == null, 0, "a package line");
        need(unit.getTypeDecls().size() == 1, 0, "more than one class beside another");
        scan(unit, null);
        need(classes <= MOST_CLASSES, 11, classes + " classes");
        for (Element method : calls.keySet()) {
            int depth = depth(method, new LinkedHashSet<>());
            need(depth <= DEEPEST, 11, method + " goes " + depth + " deep");
        }
    }

    private static void need(boolean is, int rule, String what) {
        if (!is) {
            wrong++;
            System.out.println("rule " + rule + ": " + what);
        }
    }

    private void need(boolean is, int rule, String what, Tree where) {
        if (!is) {
            need(false, rule, what + ", line " + line(trees.getSourcePositions().getStartPosition(unit, where)));
        }
    }

    private long line(long position) {
        return unit.getLineMap().getLineNumber(position);
    }

    /** How many methods stand open at once from this one on, the library's among them; none may come back to itself. */
    private int depth(Element method, Set<Element> open) {
        if (!open.add(method)) {
            need(false, 8, method + " calls itself");
            return 0;
        }
        int deepest = 0;
        for (Element called : calls.getOrDefault(method, Set.of())) {
            deepest = Math.max(deepest, depth(called, open));
        }
        open.remove(method);
        return deepest + 1;
    }

    private Element element() {
        return trees.getElement(getCurrentPath());
    }

    private TypeMirror typeOf(Tree tree) {
        return trees.getTypeMirror(new TreePath(getCurrentPath(), tree));
    }

    private static boolean isNumbers(TypeMirror type) {
        return type.getKind() == TypeKind.ARRAY
                && NUMBERS.contains(((javax.lang.model.type.ArrayType) type).getComponentType().getKind());
    }

    private static boolean isOwn(TypeMirror type) {
        return type.toString().startsWith("WalkingBridge");
    }

    private static boolean isAllowed(TypeMirror type) {
        if (type.getKind() == TypeKind.ARRAY) {
            TypeMirror inside = ((javax.lang.model.type.ArrayType) type).getComponentType();
            return NUMBERS.contains(inside.getKind()) || isOwn(inside) || isNumbers(inside);
        }
        return NUMBERS.contains(type.getKind()) || isOwn(type) || type.toString().equals("java.lang.String");
    }

    // ---- what stands where ----

    @Override
    public Void visitImport(ImportTree tree, Void none) {
        String name = tree.getQualifiedIdentifier().toString();
        need(!tree.isStatic() && IMPORTS.contains(name), 4, "import of " + name, tree);
        return null;
    }

    @Override
    public Void visitClass(ClassTree tree, Void none) {
        classes++;
        boolean outer = unit.getTypeDecls().contains(tree);
        need(tree.getKind() == Tree.Kind.CLASS, 2, "no plain class", tree);
        need(outer || tree.getModifiers().getFlags().contains(Modifier.STATIC), 1, "a class inside that is not static", tree);
        int fields = 0;
        for (Tree member : tree.getMembers()) {
            need(!(member instanceof BlockTree), 5, "a block of initialisers", member);
            boolean field = member instanceof VariableTree;
            fields += field && !((VariableTree) member).getModifiers().getFlags().contains(Modifier.STATIC) ? 1 : 0;
        }
        need(fields <= MOST_FIELDS, 11, tree.getSimpleName() + " has " + fields + " fields", tree);
        return super.visitClass(tree, none);
    }

    @Override
    public Void visitMethod(MethodTree tree, Void none) {
        Element method = element();
        String name = tree.getName().toString();
        long first = line(trees.getSourcePositions().getStartPosition(unit, tree));
        long last = line(trees.getSourcePositions().getEndPosition(unit, tree));
        need(last - first < MOST_METHOD_LINES, 11, name + " has " + (last - first + 1) + " lines", tree);
        need(tree.getParameters().size() <= MOST_ARGUMENTS, 11, name + " takes too much", tree);
        need(!Set.of("equals", "hashCode", "toString").contains(name), 6, name, tree);
        need(!tree.getModifiers().getFlags().contains(Modifier.SYNCHRONIZED), 6, "synchronized", tree);
        calls.put(method, new LinkedHashSet<>());
        methods.push(method);
        super.visitMethod(tree, none);
        methods.pop();
        return null;
    }

    @Override
    public Void visitVariable(VariableTree tree, Void none) {
        Element variable = element();
        need(isAllowed(variable.asType()), 3, "the type of " + tree.getName(), tree);
        if (tree.getModifiers().getFlags().contains(Modifier.STATIC)) {
            need(tree.getModifiers().getFlags().contains(Modifier.FINAL), 5, tree.getName() + " is not final", tree);
            boolean written = tree.getInitializer() instanceof NewArrayTree;
            need(written ? isNumbers(variable.asType()) : variable.asType().getKind() != TypeKind.ARRAY, 5,
                    tree.getName() + " is no constant", tree);
            need(written || isAllowed(variable.asType()) && !isOwn(variable.asType()), 5, tree.getName() + " is no constant",
                    tree);
        }
        return super.visitVariable(tree, none);
    }

    @Override
    public Void visitAssignment(AssignmentTree tree, Void none) {
        needNotConstant(tree.getVariable());
        return super.visitAssignment(tree, none);
    }

    @Override
    public Void visitCompoundAssignment(CompoundAssignmentTree tree, Void none) {
        needNotConstant(tree.getVariable());
        need(typeOf(tree.getVariable()).getKind() != TypeKind.BOOLEAN, 10, "a mask over booleans", tree);
        need(NUMBERS.contains(typeOf(tree.getVariable()).getKind()), 10, "texts joined by +", tree);
        return super.visitCompoundAssignment(tree, none);
    }

    private void needNotConstant(ExpressionTree target) {
        if (target instanceof com.sun.source.tree.ArrayAccessTree) {
            ExpressionTree array = ((com.sun.source.tree.ArrayAccessTree) target).getExpression();
            Element element = trees.getElement(new TreePath(getCurrentPath(), array));
            need(element == null || !element.getModifiers().contains(Modifier.STATIC), 5, "a constant array changed", target);
        }
    }

    @Override
    public Void visitBinary(BinaryTree tree, Void none) {
        TypeMirror left = typeOf(tree.getLeftOperand());
        TypeMirror right = typeOf(tree.getRightOperand());
        boolean mask = Set.of(Tree.Kind.AND, Tree.Kind.OR, Tree.Kind.XOR).contains(tree.getKind());
        need(!mask || left.getKind() != TypeKind.BOOLEAN, 10, "a mask over booleans", tree);
        need(NUMBERS.contains(left.getKind()) && NUMBERS.contains(right.getKind()), 10, "no numbers joined or compared", tree);
        return super.visitBinary(tree, none);
    }

    @Override
    public Void visitUnary(UnaryTree tree, Void none) {
        need(NUMBERS.contains(typeOf(tree.getExpression()).getKind()), 10, "a sign of no number", tree);
        return super.visitUnary(tree, none);
    }

    @Override
    public Void visitTypeCast(TypeCastTree tree, Void none) {
        need(NUMBERS.contains(typeOf(tree.getType()).getKind()), 6, "a cast among classes", tree);
        return super.visitTypeCast(tree, none);
    }

    @Override
    public Void visitLiteral(LiteralTree tree, Void none) {
        if (tree.getValue() instanceof String || tree.getValue() instanceof Character) {
            need(tree.getValue().toString().chars().allMatch(c -> c >= 1 && c <= 127), 4, "a constant's sign", tree);
        }
        return super.visitLiteral(tree, none);
    }

    // ---- calls ----

    @Override
    public Void visitMethodInvocation(MethodInvocationTree tree, Void none) {
        ExecutableElement called = (ExecutableElement) element();
        TypeElement owner = (TypeElement) called.getEnclosingElement();
        boolean superCall = called.getKind() == ElementKind.CONSTRUCTOR;
        if (!superCall) {
            need(isOwn(owner.asType()) || LIBRARY.contains(owner.getSimpleName() + "." + called.getSimpleName()), 4,
                    "a call of " + owner.getSimpleName() + "." + called.getSimpleName(), tree);
            if (!methods.isEmpty()) {
                calls.get(methods.peek()).add(called);
            }
        }
        return super.visitMethodInvocation(tree, none);
    }

    /** Rows are made once: with the object, or where an exception is thrown. */
    @Override
    public Void visitNewClass(NewClassTree tree, Void none) {
        boolean thrown = getCurrentPath().getParentPath().getLeaf() instanceof ThrowTree;
        need(thrown || isOwn(typeOf(tree.getIdentifier())), 4, "new " + tree.getIdentifier(), tree);
        need(tree.getClassBody() == null, 2, "a class without a name", tree);
        need(thrown || madeWithObject(), 12, "an object made by a call", tree);
        return super.visitNewClass(tree, none);
    }

    @Override
    public Void visitNewArray(NewArrayTree tree, Void none) {
        need(madeWithObject(), 12, "an array made by a call", tree);
        return super.visitNewArray(tree, none);
    }

    private boolean madeWithObject() {
        return methods.isEmpty() || methods.peek().getKind() == ElementKind.CONSTRUCTOR;
    }

    // ---- exceptions ----

    @Override
    public Void visitThrow(ThrowTree tree, Void none) {
        need(tree.getExpression() instanceof NewClassTree, 6, "a throw of nothing new", tree);
        if (tree.getExpression() instanceof NewClassTree) {
            NewClassTree made = (NewClassTree) tree.getExpression();
            need(THROWN.contains(made.getIdentifier().toString()), 6, "a throw of " + made.getIdentifier(), tree);
            need(made.getArguments().isEmpty() || made.getArguments().size() == 1
                    && made.getArguments().get(0) instanceof LiteralTree, 6, "no written text in a throw", tree);
        }
        need(methods.peek() != null && methods.peek().getSimpleName().contentEquals("look"), 6,
                "a throw where the document has none", tree);
        return super.visitThrow(tree, none);
    }

    @Override
    public Void visitTry(TryTree tree, Void none) {
        need(false, 6, "a try", tree);
        return super.visitTry(tree, none);
    }

    @Override
    public Void visitCatch(CatchTree tree, Void none) {
        need(false, 6, "a catch", tree);
        return super.visitCatch(tree, none);
    }

    // ---- what the language leaves out, or the class does without ----

    @Override
    public Void visitSynchronized(SynchronizedTree tree, Void none) {
        need(false, 6, "synchronized", tree);
        return super.visitSynchronized(tree, none);
    }

    @Override
    public Void visitAssert(AssertTree tree, Void none) {
        need(false, 6, "assert", tree);
        return super.visitAssert(tree, none);
    }

    @Override
    public Void visitInstanceOf(InstanceOfTree tree, Void none) {
        need(false, 6, "instanceof", tree);
        return super.visitInstanceOf(tree, none);
    }

    @Override
    public Void visitLambdaExpression(LambdaExpressionTree tree, Void none) {
        need(false, 2, "a lambda", tree);
        return super.visitLambdaExpression(tree, none);
    }

    @Override
    public Void visitMemberReference(MemberReferenceTree tree, Void none) {
        need(false, 2, "a reference to a method", tree);
        return super.visitMemberReference(tree, none);
    }

    @Override
    public Void visitSwitchExpression(SwitchExpressionTree tree, Void none) {
        need(false, 10, "a switch that has a value", tree);
        return super.visitSwitchExpression(tree, none);
    }

    @Override
    public Void visitAnnotation(AnnotationTree tree, Void none) {
        need(false, 4, "an annotation", tree);
        return super.visitAnnotation(tree, none);
    }
}
