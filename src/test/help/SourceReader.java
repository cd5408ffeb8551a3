import com.sun.source.tree.AssertTree;
import com.sun.source.tree.BinaryTree;
import com.sun.source.tree.BlockTree;
import com.sun.source.tree.CatchTree;
import com.sun.source.tree.ClassTree;
import com.sun.source.tree.CompilationUnitTree;
import com.sun.source.tree.CompoundAssignmentTree;
import com.sun.source.tree.DoWhileLoopTree;
import com.sun.source.tree.ExpressionTree;
import com.sun.source.tree.ForLoopTree;
import com.sun.source.tree.ImportTree;
import com.sun.source.tree.InstanceOfTree;
import com.sun.source.tree.LambdaExpressionTree;
import com.sun.source.tree.LiteralTree;
import com.sun.source.tree.MemberReferenceTree;
import com.sun.source.tree.MethodInvocationTree;
import com.sun.source.tree.MethodTree;
import com.sun.source.tree.NewArrayTree;
import com.sun.source.tree.NewClassTree;
import com.sun.source.tree.SynchronizedTree;
import com.sun.source.tree.ThrowTree;
import com.sun.source.tree.Tree;
import com.sun.source.tree.TryTree;
import com.sun.source.tree.TypeCastTree;
import com.sun.source.tree.UnaryTree;
import com.sun.source.tree.VariableTree;
import com.sun.source.tree.WhileLoopTree;
import com.sun.source.util.JavacTask;
import com.sun.source.util.SourcePositions;
import com.sun.source.util.TreePath;
import com.sun.source.util.TreePathScanner;
import com.sun.source.util.Trees;
import java.io.IOException;
import java.io.UncheckedIOException;
import java.nio.file.Path;
import java.util.ArrayList;
import java.util.LinkedHashMap;
import java.util.LinkedHashSet;
import java.util.List;
import java.util.Map;
import java.util.Set;
import java.util.TreeSet;
import javax.lang.model.element.Element;
import javax.lang.model.element.ElementKind;
import javax.lang.model.element.ExecutableElement;
import javax.lang.model.element.Modifier;
import javax.lang.model.type.ArrayType;
import javax.lang.model.type.TypeKind;
import javax.lang.model.type.TypeMirror;
import javax.tools.JavaCompiler;
import javax.tools.StandardJavaFileManager;
import javax.tools.ToolProvider;

/**
 * What the source of the class holds, and what in it breaks a rule of LANGUAGE.md, each told with its
 * line. It is read by the compiler's own reader.
 */
final class SourceReader extends TreePathScanner<Void, Void> {
    private static final Set<String> EXCEPTIONS = Set.of("java.lang.IllegalStateException",
        "java.lang.IllegalArgumentException", "java.lang.IndexOutOfBoundsException", "java.lang.ArithmeticException",
        "java.lang.UnsupportedOperationException", "java.util.NoSuchElementException", "java.lang.RuntimeException");
    private static final Set<String> MACHINE_EXCEPTIONS = Set.of("java.lang.IndexOutOfBoundsException",
        "java.lang.ArithmeticException", "java.lang.RuntimeException");

    private final Trees trees;
    final CompilationUnitTree unit;
    final Map<String, Set<String>> calls = new LinkedHashMap<>();
    final Map<String, MethodTree> methods = new LinkedHashMap<>();
    final Map<String, Integer> fields = new LinkedHashMap<>();
    private final Map<Integer, List<String>> faults = new LinkedHashMap<>();
    final Set<String> library = new TreeSet<>();
    final List<String> made = new ArrayList<>();
    final List<String> imports = new ArrayList<>();
    int classes;
    int loops;
    int thrown;

    private SourceReader(Trees trees, CompilationUnitTree unit) {
        this.trees = trees;
        this.unit = unit;
    }

    static SourceReader read(Path source) {
        JavaCompiler compiler = ToolProvider.getSystemJavaCompiler();
        try (StandardJavaFileManager files = compiler.getStandardFileManager(null, null, null)) {
            JavacTask task = (JavacTask) compiler.getTask(null, files, null, null, null,
                files.getJavaFileObjects(source));
            CompilationUnitTree unit = task.parse().iterator().next();
            task.analyze();
            SourceReader reader = new SourceReader(Trees.instance(task), unit);
            reader.scan(unit, null);
            return reader;
        } catch (IOException e) {
            throw new UncheckedIOException(e);
        }
    }

    private String where(Tree tree) {
        return " in line " + unit.getLineMap().getLineNumber(
            trees.getSourcePositions().getStartPosition(unit, tree));
    }

    private long lines(Tree tree) {
        SourcePositions at = trees.getSourcePositions();
        return unit.getLineMap().getLineNumber(at.getEndPosition(unit, tree))
            - unit.getLineMap().getLineNumber(at.getStartPosition(unit, tree)) + 1;
    }

    private void fault(int rule, String what, Tree tree) {
        faults.computeIfAbsent(rule, r -> new ArrayList<>()).add(what + where(tree));
    }

    List<String> of(int rule) {
        return faults.getOrDefault(rule, List.of());
    }

    private TypeMirror typeOf(Tree tree) {
        return trees.getTypeMirror(new TreePath(getCurrentPath(), tree));
    }

    private boolean isText(Tree tree) {
        return typeOf(tree).toString().equals("java.lang.String");
    }

    private static boolean isFloating(TypeMirror type) {
        return type.getKind() == TypeKind.FLOAT || type.getKind() == TypeKind.DOUBLE;
    }

    private static boolean isOwn(String type) {
        return type.equals("FencedBoxes") || type.startsWith("FencedBoxes.");
    }

    private MethodTree method() {
        for (TreePath p = getCurrentPath(); p != null; p = p.getParentPath()) {
            if (p.getLeaf() instanceof MethodTree) {
                return (MethodTree) p.getLeaf();
            }
        }
        return null;
    }

    private boolean isWithin(Tree.Kind kind) {
        for (TreePath p = getCurrentPath().getParentPath(); p != null; p = p.getParentPath()) {
            if (p.getLeaf().getKind() == kind) {
                return true;
            }
        }
        return false;
    }

    private String nameOfMethod() {
        for (TreePath p = getCurrentPath(); p != null; p = p.getParentPath()) {
            if (p.getLeaf() instanceof MethodTree) {
                return nameOf(trees.getElement(p));
            }
        }
        return "fields";
    }

    private static String nameOf(Element element) {
        return element.getEnclosingElement() + "." + element;
    }

    private void called(Element element) {
        String owner = element.getEnclosingElement().toString();
        if (isOwn(owner)) {
            calls.computeIfAbsent(nameOfMethod(), m -> new LinkedHashSet<>()).add(nameOf(element));
        } else if (element.getKind() != ElementKind.CONSTRUCTOR) {
            library.add(owner + "." + element.getSimpleName());
        }
    }

    @Override
    public Void visitImport(ImportTree tree, Void none) {
        imports.add(tree.getQualifiedIdentifier().toString());
        return super.visitImport(tree, none);
    }

    @Override
    public Void visitClass(ClassTree tree, Void none) {
        classes++;
        Set<Modifier> flags = tree.getModifiers().getFlags();
        boolean outer = tree.getSimpleName().contentEquals("FencedBoxes");
        boolean nested = getCurrentPath().getParentPath().getLeaf() instanceof ClassTree;
        if (!outer && (!nested || tree.getKind() == Tree.Kind.CLASS && !flags.contains(Modifier.STATIC))) {
            fault(2, "a class that is not static and nested", tree);
        }
        if (!outer && (flags.contains(Modifier.PUBLIC)
            || flags.contains(Modifier.PROTECTED))) {
            fault(1, "a class inside that is shown", tree);
        }
        if (tree.getExtendsClause() != null && EXCEPTIONS.contains(typeOf(tree.getExtendsClause()).toString())) {
            fault(6, "an exception class", tree);
        }
        for (Tree member : tree.getMembers()) {
            if (member instanceof BlockTree) {
                fault(5, "an initialiser block", member);
            }
        }
        return super.visitClass(tree, none);
    }

    @Override
    public Void visitMethod(MethodTree tree, Void none) {
        Element element = trees.getElement(getCurrentPath());
        methods.put(nameOf(element), tree);
        if (tree.getParameters().size() > 7) {
            fault(11, "more than seven parameters", tree);
        }
        if (lines(tree) > 60) {
            fault(11, "a method of more than 60 lines", tree);
        }
        if (Set.of("equals", "hashCode", "toString").contains(tree.getName().toString())) {
            fault(6, "an own " + tree.getName(), tree);
        }
        if (tree.getModifiers().getFlags().contains(Modifier.SYNCHRONIZED)) {
            fault(6, "synchronized", tree);
        }
        return super.visitMethod(tree, none);
    }

    @Override
    public Void visitVariable(VariableTree tree, Void none) {
        Element element = trees.getElement(getCurrentPath());
        TypeMirror type = element.asType();
        if (!isAllowed(type)) {
            fault(3, "the type " + type, tree);
        }
        if (element.getKind() == ElementKind.FIELD) {
            field(tree, element, type);
        }
        return super.visitVariable(tree, none);
    }

    /** Arrays of two dimensions hold numbers alone. */
    private static boolean isAllowed(TypeMirror type) {
        if (type.getKind() == TypeKind.ARRAY) {
            TypeMirror part = ((ArrayType) type).getComponentType();
            return isAllowed(part) && (part.getKind() != TypeKind.ARRAY
                || ((ArrayType) part).getComponentType().getKind().isPrimitive());
        }
        String name = type.toString();
        return type.getKind().isPrimitive() || isOwn(name) || EXCEPTIONS.contains(name)
            || name.equals("java.lang.String") || name.equals("java.lang.StringBuilder")
            || name.matches("java\\.util\\.(Array)?List<.*");
    }

    private void field(VariableTree tree, Element element, TypeMirror type) {
        Set<Modifier> flags = element.getModifiers();
        if (!flags.contains(Modifier.STATIC)) {
            fields.merge(element.getEnclosingElement().toString(), 1, Integer::sum);
        } else if (!flags.contains(Modifier.FINAL)
            || !type.toString().matches("(int|long|char|byte)(\\[\\])?|boolean|java\\.lang\\.String")) {
            fault(5, "static state", tree);
        }
    }

    @Override
    public Void visitMethodInvocation(MethodInvocationTree tree, Void none) {
        ExecutableElement element = (ExecutableElement) trees.getElement(
            new TreePath(getCurrentPath(), tree.getMethodSelect()));
        if (!element.getSimpleName().contentEquals("<init>")) {
            called(element);
        }
        return super.visitMethodInvocation(tree, none);
    }

    @Override
    public Void visitNewClass(NewClassTree tree, Void none) {
        called(trees.getElement(getCurrentPath()));
        String type = typeOf(tree.getIdentifier()).toString();
        boolean refused = getCurrentPath().getParentPath().getLeaf() instanceof ThrowTree;
        if (!refused) {
            makes(tree, type);
        }
        if (!isOwn(type) && !EXCEPTIONS.contains(type)) {
            fault(4, "new " + type, tree);
        }
        return super.visitNewClass(tree, none);
    }

    @Override
    public Void visitNewArray(NewArrayTree tree, Void none) {
        makes(tree, String.valueOf(tree.getType()) + "[]");
        for (ExpressionTree size : tree.getDimensions()) {
            if (!(size instanceof LiteralTree) && !size.toString().matches("[A-Z_0-9 <()*+]+")) {
                fault(7, "a length that is no constant", tree);
            }
        }
        return super.visitNewArray(tree, none);
    }

    private void makes(Tree tree, String what) {
        MethodTree method = method();
        if (method != null && method.getReturnType() != null) {
            fault(12, "makes " + what, tree);
        }
        made.add(what);
    }

    @Override
    public Void visitThrow(ThrowTree tree, Void none) {
        thrown++;
        ExpressionTree what = tree.getExpression();
        if (!(what instanceof NewClassTree) || !EXCEPTIONS.contains(typeOf(what).toString())
            || ((NewClassTree) what).getArguments().stream().anyMatch(a -> !(a instanceof LiteralTree))) {
            fault(6, "a throw of another form", tree);
        }
        if (method() == null || method().getReturnType() == null) {
            fault(6, "a throw in a constructor", tree);
        }
        if (method() != null && !method().getModifiers().getFlags().contains(Modifier.PRIVATE)
            && method().getThrows().stream().noneMatch(e -> typeOf(what).toString().endsWith("." + e))) {
            fault(6, "a call of the face throws what it does not tell", tree);
        }
        if (isWithin(Tree.Kind.TRY)) {
            fault(6, "a throw in the method that catches", tree);
        }
        return super.visitThrow(tree, none);
    }

    @Override
    public Void visitTry(TryTree tree, Void none) {
        if (tree.getFinallyBlock() != null || !tree.getResources().isEmpty()) {
            fault(6, "finally, or a try with resources", tree);
        }
        return super.visitTry(tree, none);
    }

    @Override
    public Void visitCatch(CatchTree tree, Void none) {
        String type = typeOf(tree.getParameter().getType()).toString();
        if (!EXCEPTIONS.contains(type) || MACHINE_EXCEPTIONS.contains(type)) {
            fault(6, "a catch of " + type, tree);
        }
        return super.visitCatch(tree, none);
    }

    @Override
    public Void visitBinary(BinaryTree tree, Void none) {
        boolean floating = isFloating(typeOf(tree.getLeftOperand())) || isFloating(typeOf(tree.getRightOperand()));
        if (floating && !Set.of(Tree.Kind.PLUS, Tree.Kind.MINUS, Tree.Kind.MULTIPLY, Tree.Kind.DIVIDE,
            Tree.Kind.LESS_THAN, Tree.Kind.LESS_THAN_EQUAL, Tree.Kind.GREATER_THAN, Tree.Kind.GREATER_THAN_EQUAL,
            Tree.Kind.EQUAL_TO, Tree.Kind.NOT_EQUAL_TO).contains(tree.getKind())) {
            fault(3, "another operation on floats", tree);
        }
        if (tree.getKind() == Tree.Kind.PLUS && (isText(tree.getLeftOperand()) || isText(tree.getRightOperand()))) {
            fault(10, "texts joined by +", tree);
        }
        if ((tree.getKind() == Tree.Kind.EQUAL_TO || tree.getKind() == Tree.Kind.NOT_EQUAL_TO)
            && isText(tree.getLeftOperand()) && isText(tree.getRightOperand())) {
            fault(6, "== between two texts", tree);
        }
        boolean divides = tree.getKind() == Tree.Kind.DIVIDE || tree.getKind() == Tree.Kind.REMAINDER;
        if (divides && !tree.getRightOperand().toString().matches("(\\(float\\))?[A-Z_0-9 +()]+")) {
            fault(7, "a divisor that is no constant", tree);
        }
        return super.visitBinary(tree, none);
    }

    @Override
    public Void visitCompoundAssignment(CompoundAssignmentTree tree, Void none) {
        if (isText(tree.getVariable())) {
            fault(10, "texts joined by +=", tree);
        }
        return super.visitCompoundAssignment(tree, none);
    }

    @Override
    public Void visitTypeCast(TypeCastTree tree, Void none) {
        if (!typeOf(tree.getType()).getKind().isPrimitive()) {
            fault(7, "a cast of objects", tree);
        }
        return super.visitTypeCast(tree, none);
    }

    @Override
    public Void visitLiteral(LiteralTree tree, Void none) {
        Object value = tree.getValue();
        if (value instanceof String && ((String) value).chars().anyMatch(c -> c < 1 || c > 127)) {
            fault(4, "a sign in a text that is not 1 to 127", tree);
        }
        return super.visitLiteral(tree, none);
    }

    @Override
    public Void visitForLoop(ForLoopTree tree, Void none) {
        loops++;
        boolean bounded = tree.getCondition() != null && tree.getCondition().toString().matches(".*[<>].*");
        if (!bounded || tree.getUpdate().isEmpty()
            || !(tree.getUpdate().get(0).getExpression() instanceof UnaryTree)) {
            fault(9, "a loop that counts against no bound", tree);
        }
        return super.visitForLoop(tree, none);
    }

    /** Others than 'for' may count too, but the class has none, and their counters are not seen here. */
    @Override
    public Void visitWhileLoop(WhileLoopTree tree, Void none) {
        fault(9, "a loop without a counter", tree);
        return super.visitWhileLoop(tree, none);
    }

    @Override
    public Void visitDoWhileLoop(DoWhileLoopTree tree, Void none) {
        fault(9, "a loop without a counter", tree);
        return super.visitDoWhileLoop(tree, none);
    }

    @Override
    public Void visitLambdaExpression(LambdaExpressionTree tree, Void none) {
        fault(2, "a lambda", tree);
        return super.visitLambdaExpression(tree, none);
    }

    @Override
    public Void visitMemberReference(MemberReferenceTree tree, Void none) {
        fault(2, "a method reference", tree);
        return super.visitMemberReference(tree, none);
    }

    @Override
    public Void visitSynchronized(SynchronizedTree tree, Void none) {
        fault(6, "synchronized", tree);
        return super.visitSynchronized(tree, none);
    }

    @Override
    public Void visitAssert(AssertTree tree, Void none) {
        fault(6, "assert", tree);
        return super.visitAssert(tree, none);
    }

    @Override
    public Void visitInstanceOf(InstanceOfTree tree, Void none) {
        if (!isOwn(typeOf(tree.getType()).toString())) {
            fault(6, "instanceof of another's class", tree);
        }
        return super.visitInstanceOf(tree, none);
    }
}
