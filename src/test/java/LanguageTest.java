import com.sun.source.tree.BinaryTree;
import com.sun.source.tree.CatchTree;
import com.sun.source.tree.ClassTree;
import com.sun.source.tree.CompilationUnitTree;
import com.sun.source.tree.CompoundAssignmentTree;
import com.sun.source.tree.ExpressionTree;
import com.sun.source.tree.ForLoopTree;
import com.sun.source.tree.ImportTree;
import com.sun.source.tree.LineMap;
import com.sun.source.tree.LiteralTree;
import com.sun.source.tree.MethodInvocationTree;
import com.sun.source.tree.MethodTree;
import com.sun.source.tree.NewClassTree;
import com.sun.source.tree.ThrowTree;
import com.sun.source.tree.Tree;
import com.sun.source.tree.TryTree;
import com.sun.source.tree.TypeCastTree;
import com.sun.source.tree.VariableTree;
import com.sun.source.tree.WhileLoopTree;
import com.sun.source.util.JavacTask;
import com.sun.source.util.SourcePositions;
import com.sun.source.util.TreePath;
import com.sun.source.util.TreePathScanner;
import com.sun.source.util.Trees;
import java.io.IOException;
import java.nio.file.Path;
import java.util.ArrayDeque;
import java.util.ArrayList;
import java.util.Deque;
import java.util.EnumSet;
import java.util.LinkedHashMap;
import java.util.LinkedHashSet;
import java.util.List;
import java.util.Map;
import java.util.Set;
import javax.lang.model.element.Element;
import javax.lang.model.element.ElementKind;
import javax.lang.model.element.ExecutableElement;
import javax.lang.model.element.Modifier;
import javax.lang.model.element.TypeElement;
import javax.lang.model.type.ArrayType;
import javax.lang.model.type.TypeKind;
import javax.lang.model.type.TypeMirror;
import javax.tools.JavaCompiler;
import javax.tools.StandardJavaFileManager;
import javax.tools.ToolProvider;

/**
 * What of ../shared/LANGUAGE.md a reader of the source can hold the class to. It is narrower than the rules where the class
 * needs less than they leave: a session that wants more of them widens it here, with the rule in hand.
 */
public final class LanguageTest extends TreePathScanner<Void, Void> {
    private static final Path SOURCE = Path.of("src", "main", "java", "WishRoom.java");
    private static final int MOST_CALLS = 8;
    private static final int MOST_LINES = 60;
    private static final int MOST_PARAMETERS = 7;
    private static final int MOST_CLASSES = 12;
    private static final int MOST_FIELDS = 20;
    private static final Set<Tree.Kind> LEFT_OUT = EnumSet.of(Tree.Kind.LAMBDA_EXPRESSION, Tree.Kind.MEMBER_REFERENCE,
        Tree.Kind.ASSERT, Tree.Kind.SYNCHRONIZED, Tree.Kind.INSTANCE_OF, Tree.Kind.BINDING_PATTERN, Tree.Kind.SWITCH_EXPRESSION,
        Tree.Kind.UNION_TYPE, Tree.Kind.FLOAT_LITERAL, Tree.Kind.DOUBLE_LITERAL);
    private static final Set<String> LIBRARY = Set.of("String.length", "String.charAt", "String.isEmpty", "Integer.bitCount",
        "Long.bitCount", "Integer.compare", "Long.compare", "Math.min", "Math.max", "Math.abs");
    private static final Set<String> THROWN = Set.of("IllegalStateException", "IllegalArgumentException",
        "IndexOutOfBoundsException", "ArithmeticException", "UnsupportedOperationException", "NoSuchElementException",
        "RuntimeException");
    private static final Set<TypeKind> CONSTANTS = EnumSet.of(TypeKind.INT, TypeKind.LONG, TypeKind.BOOLEAN, TypeKind.CHAR);
    private static final Set<TypeKind> CONSTANT_ROWS = EnumSet.of(TypeKind.INT, TypeKind.LONG, TypeKind.CHAR, TypeKind.BYTE);

    private final Trees trees;
    private final CompilationUnitTree unit;
    private final SourcePositions positions;
    private final LineMap lines;
    private final Map<ExecutableElement, Set<ExecutableElement>> calls = new LinkedHashMap<>();
    private final List<String> wrong = new ArrayList<>();
    private int classes = 0;

    private LanguageTest(Trees trees, CompilationUnitTree unit) {
        this.trees = trees;
        this.unit = unit;
        positions = trees.getSourcePositions();
        lines = unit.getLineMap();
    }

    public static void main(String[] args) throws IOException {
        JavaCompiler compiler = ToolProvider.getSystemJavaCompiler();
        try (StandardJavaFileManager files = compiler.getStandardFileManager(null, null, null)) {
            JavacTask task = (JavacTask) compiler.getTask(null, files, null, List.of("-proc:none"), null,
                files.getJavaFileObjects(SOURCE));
            CompilationUnitTree unit = task.parse().iterator().next();
            task.analyze();
            LanguageTest test = new LanguageTest(Trees.instance(task), unit);
            test.scan(unit, null);
            test.checkCalls();
            test.wrong.forEach(System.out::println);
            System.out.println("the language: " + test.calls.size() + " methods, " + test.classes + " classes, "
                + test.wrong.size() + " wrong");
            if (!test.wrong.isEmpty()) {
                System.exit(1);
            }
        }
    }

    private void fail(int rule, Tree tree, String what) {
        wrong.add("rule " + rule + ", line " + lineOf(positions.getStartPosition(unit, tree)) + ": " + what);
    }

    private long lineOf(long place) {
        return lines.getLineNumber(place);
    }

    private Element elementOf(Tree tree) {
        return trees.getElement(TreePath.getPath(unit, tree));
    }

    private TypeMirror typeOf(Tree tree) {
        return trees.getTypeMirror(TreePath.getPath(unit, tree));
    }

    private MethodTree methodAround() {
        for (TreePath path = getCurrentPath(); path != null; path = path.getParentPath()) {
            if (path.getLeaf() instanceof MethodTree method) {
                return method;
            }
        }
        return null;
    }

    private static boolean isOwn(Element element) {
        Element outer = element;
        while (outer.getEnclosingElement() != null && outer.getEnclosingElement().getKind() != ElementKind.PACKAGE) {
            outer = outer.getEnclosingElement();
        }
        return outer.getSimpleName().contentEquals("WishRoom");
    }

    @Override
    public Void scan(Tree tree, Void none) {
        if (tree != null && LEFT_OUT.contains(tree.getKind())) {
            fail(2, tree, "a " + tree.getKind());
        }
        return super.scan(tree, none);
    }

    @Override
    public Void visitImport(ImportTree tree, Void none) {
        if (!tree.getQualifiedIdentifier().toString().equals("java.util.NoSuchElementException")) {
            fail(4, tree, tree.toString().trim());
        }
        return super.visitImport(tree, none);
    }

    @Override
    public Void visitClass(ClassTree tree, Void none) {
        classes++;
        if (classes > MOST_CLASSES) {
            fail(11, tree, "more than " + MOST_CLASSES + " classes");
        }
        Set<Modifier> modifiers = tree.getModifiers().getFlags();
        boolean outer = getCurrentPath().getParentPath().getLeaf() == unit;
        if (!outer && (!modifiers.contains(Modifier.STATIC) || modifiers.contains(Modifier.PUBLIC))) {
            fail(1, tree, tree.getSimpleName() + " is not static, or public");
        }
        int fields = 0;
        for (Tree member : tree.getMembers()) {
            if (member.getKind() == Tree.Kind.BLOCK) {
                fail(5, member, "an initialiser block");
            } else if (member instanceof VariableTree field && field.getModifiers().getFlags().contains(Modifier.STATIC)) {
                checkConstant(field);
            } else if (member instanceof VariableTree) {
                fields++;
            }
        }
        if (fields > MOST_FIELDS) {
            fail(11, tree, tree.getSimpleName() + " has " + fields + " fields");
        }
        return super.visitClass(tree, none);
    }

    private void checkConstant(VariableTree field) {
        TypeMirror type = typeOf(field);
        boolean row = type instanceof ArrayType array && CONSTANT_ROWS.contains(array.getComponentType().getKind());
        boolean plain = CONSTANTS.contains(type.getKind()) || type.toString().equals("java.lang.String");
        if (!field.getModifiers().getFlags().contains(Modifier.FINAL) || !row && !plain || field.getInitializer() == null) {
            fail(5, field, "static " + field.getName());
        }
    }

    @Override
    public Void visitMethod(MethodTree tree, Void none) {
        ExecutableElement method = (ExecutableElement) elementOf(tree);
        calls.put(method, calls.getOrDefault(method, new LinkedHashSet<>()));
        long from = lineOf(positions.getStartPosition(unit, tree));
        long to = lineOf(positions.getEndPosition(unit, tree));
        if (to - from + 1 > MOST_LINES) {
            fail(11, tree, tree.getName() + " has " + (to - from + 1) + " lines");
        }
        if (tree.getParameters().size() > MOST_PARAMETERS) {
            fail(11, tree, tree.getName() + " has " + tree.getParameters().size() + " parameters");
        }
        return super.visitMethod(tree, none);
    }

    @Override
    public Void visitVariable(VariableTree tree, Void none) {
        TypeMirror type = typeOf(tree);
        if (type instanceof ArrayType array) {
            type = array.getComponentType();
        }
        boolean number = type.getKind().isPrimitive() && type.getKind() != TypeKind.DOUBLE && type.getKind() != TypeKind.FLOAT;
        boolean own = type.getKind() == TypeKind.DECLARED && type.toString().startsWith("WishRoom");
        if (!number && !own && !type.toString().equals("java.lang.String")) {
            fail(3, tree, tree.getName() + " is a " + type);
        }
        return super.visitVariable(tree, none);
    }

    @Override
    public Void visitMethodInvocation(MethodInvocationTree tree, Void none) {
        ExecutableElement called = (ExecutableElement) elementOf(tree);
        String name = called.getEnclosingElement().getSimpleName() + "." + called.getSimpleName();
        if (isOwn(called)) {
            noteCall(called);
        } else if (!LIBRARY.contains(name) && !called.getSimpleName().contentEquals("<init>")) {
            fail(4, tree, name);
        }
        return super.visitMethodInvocation(tree, none);
    }

    private void noteCall(ExecutableElement called) {
        MethodTree around = methodAround();
        if (around != null) {
            calls.computeIfAbsent((ExecutableElement) elementOf(around), key -> new LinkedHashSet<>()).add(called);
        }
    }

    @Override
    public Void visitNewClass(NewClassTree tree, Void none) {
        Element made = elementOf(tree);
        boolean thrown = getCurrentPath().getParentPath().getLeaf() instanceof ThrowTree;
        if (isOwn(made)) {
            noteCall((ExecutableElement) made);
        } else if (!thrown) {
            fail(4, tree, "new " + tree.getIdentifier());
        }
        if (tree.getClassBody() != null) {
            fail(2, tree, "a class without a name");
        }
        return super.visitNewClass(tree, none);
    }

    @Override
    public Void visitThrow(ThrowTree tree, Void none) {
        MethodTree around = methodAround();
        boolean plain = tree.getExpression() instanceof NewClassTree made && THROWN.contains(made.getIdentifier().toString())
            && made.getArguments().stream().allMatch(text -> text.getKind() == Tree.Kind.STRING_LITERAL);
        boolean ofTheFace = around != null && around.getModifiers().getFlags().contains(Modifier.PUBLIC)
            && around.getThrows().stream().anyMatch(type -> tree.toString().contains("new " + type + "("));
        if (!plain || !ofTheFace || around.getReturnType() == null) {
            fail(6, tree, tree.toString());
        }
        return super.visitThrow(tree, none);
    }

    @Override
    public Void visitTry(TryTree tree, Void none) {
        if (tree.getFinallyBlock() != null || !tree.getResources().isEmpty()) {
            fail(6, tree, "finally, or resources");
        }
        for (CatchTree caught : tree.getCatches()) {
            if (!THROWN.contains(caught.getParameter().getType().toString())) {
                fail(6, caught, "catch of " + caught.getParameter());
            }
        }
        return super.visitTry(tree, none);
    }

    @Override
    public Void visitTypeCast(TypeCastTree tree, Void none) {
        if (!typeOf(tree.getType()).getKind().isPrimitive()) {
            fail(6, tree, "a cast that may fail: " + tree);
        }
        return super.visitTypeCast(tree, none);
    }

    @Override
    public Void visitBinary(BinaryTree tree, Void none) {
        boolean text = isText(tree.getLeftOperand()) || isText(tree.getRightOperand());
        if (text && tree.getKind() == Tree.Kind.PLUS) {
            fail(10, tree, "texts joined by +");
        } else if (text) {
            fail(6, tree, "texts held against each other: " + tree);
        }
        if (tree.getKind() == Tree.Kind.DIVIDE || tree.getKind() == Tree.Kind.REMAINDER) {
            checkDivisor(tree.getRightOperand());
        }
        return super.visitBinary(tree, none);
    }

    @Override
    public Void visitCompoundAssignment(CompoundAssignmentTree tree, Void none) {
        if (tree.getKind() == Tree.Kind.DIVIDE_ASSIGNMENT || tree.getKind() == Tree.Kind.REMAINDER_ASSIGNMENT) {
            checkDivisor(tree.getExpression());
        }
        return super.visitCompoundAssignment(tree, none);
    }

    private boolean isText(ExpressionTree tree) {
        return typeOf(tree).toString().equals("java.lang.String");
    }

    private void checkDivisor(ExpressionTree tree) {
        Object value = tree instanceof LiteralTree literal ? literal.getValue() : null;
        if (elementOf(tree) instanceof javax.lang.model.element.VariableElement variable) {
            value = variable.getConstantValue();
        }
        if (!(value instanceof Number number) || number.longValue() == 0) {
            fail(7, tree, "a divisor that is no constant: " + tree);
        }
    }

    @Override
    public Void visitForLoop(ForLoopTree tree, Void none) {
        if (tree.getCondition() == null || tree.getUpdate().isEmpty()) {
            fail(9, tree, "a loop without an end that can be seen");
        }
        return super.visitForLoop(tree, none);
    }

    @Override
    public Void visitWhileLoop(WhileLoopTree tree, Void none) {
        if (tree.getCondition().toString().equals("(true)")) {
            fail(9, tree, "a loop without an end that can be seen");
        }
        return super.visitWhileLoop(tree, none);
    }

    // ---- calls

    private void checkCalls() {
        for (ExecutableElement method : calls.keySet()) {
            if (method.getModifiers().contains(Modifier.PUBLIC)) {
                goDown(method, new ArrayDeque<>());
            }
        }
    }

    /** A call of a method that stands open already is recursion: it is not followed, but has to be of a private one. */
    private void goDown(ExecutableElement method, Deque<ExecutableElement> open) {
        if (open.contains(method)) {
            boolean hidden = method.getModifiers().contains(Modifier.PRIVATE);
            String text = "rule 8: " + shown(method) + " calls itself and is not private";
            if (!hidden && !wrong.contains(text)) {
                wrong.add(text);
            }
            return;
        }
        open.addLast(method);
        if (open.size() > MOST_CALLS) {
            StringBuilder chain = new StringBuilder("rule 11: more than " + MOST_CALLS + " calls deep:");
            open.forEach(each -> chain.append(' ').append(shown(each)));
            wrong.add(chain.toString());
        } else {
            for (ExecutableElement called : calls.getOrDefault(method, Set.of())) {
                goDown(called, open);
            }
        }
        open.removeLast();
    }

    private static String shown(ExecutableElement method) {
        return ((TypeElement) method.getEnclosingElement()).getSimpleName() + "." + method.getSimpleName();
    }
}
