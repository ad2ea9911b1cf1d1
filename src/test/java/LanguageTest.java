import com.sun.source.tree.ArrayAccessTree;
import com.sun.source.tree.AssignmentTree;
import com.sun.source.tree.BinaryTree;
import com.sun.source.tree.ClassTree;
import com.sun.source.tree.CompilationUnitTree;
import com.sun.source.tree.CompoundAssignmentTree;
import com.sun.source.tree.ExpressionTree;
import com.sun.source.tree.ForLoopTree;
import com.sun.source.tree.LiteralTree;
import com.sun.source.tree.MethodInvocationTree;
import com.sun.source.tree.MethodTree;
import com.sun.source.tree.NewArrayTree;
import com.sun.source.tree.NewClassTree;
import com.sun.source.tree.Tree;
import com.sun.source.tree.UnaryTree;
import com.sun.source.tree.VariableTree;
import com.sun.source.tree.WhileLoopTree;
import com.sun.source.util.JavacTask;
import com.sun.source.util.TreePath;
import com.sun.source.util.TreePathScanner;
import com.sun.source.util.Trees;
import java.io.IOException;
import java.nio.file.Files;
import java.nio.file.Path;
import java.util.ArrayList;
import java.util.HashMap;
import java.util.List;
import java.util.Map;
import java.util.Set;
import java.util.TreeSet;
import javax.lang.model.element.Element;
import javax.lang.model.element.ExecutableElement;
import javax.lang.model.element.Modifier;
import javax.lang.model.element.TypeElement;
import javax.lang.model.element.VariableElement;
import javax.lang.model.type.ArrayType;
import javax.lang.model.type.TypeKind;
import javax.lang.model.type.TypeMirror;
import javax.tools.JavaCompiler;
import javax.tools.StandardJavaFileManager;
import javax.tools.ToolProvider;

/**
 * The rules of LANGUAGE.md, read off the compiler's own tree of QuietStairs.java. Where the class
 * uses less than a rule allows, the test holds it to that less.
 */
public final class LanguageTest extends TreePathScanner<Void, Void> {
    private static final Path SOURCE = Path.of("src/main/java/QuietStairs.java");
    private static final int LONGEST_METHOD = 60;
    private static final int MOST_PARAMETERS = 7;
    private static final int MOST_CLASSES = 12;
    private static final int MOST_FIELDS = 20;
    private static final int DEEPEST = 8;

    /** All that the class is made of: nothing of rule 6 or rule 2's forbidden kinds is among it. */
    private static final Set<String> KINDS = Set.of("COMPILATION_UNIT", "CLASS", "METHOD", "VARIABLE",
            "MODIFIERS", "PRIMITIVE_TYPE", "ARRAY_TYPE", "IDENTIFIER", "MEMBER_SELECT", "INT_LITERAL",
            "BOOLEAN_LITERAL", "NULL_LITERAL", "NEW_ARRAY", "NEW_CLASS", "BLOCK", "IF", "FOR_LOOP",
            "WHILE_LOOP", "SWITCH", "CASE", "CONSTANT_CASE_LABEL", "DEFAULT_CASE_LABEL", "RETURN",
            "EXPRESSION_STATEMENT", "METHOD_INVOCATION", "ARRAY_ACCESS", "CONDITIONAL_EXPRESSION",
            "PARENTHESIZED", "ASSIGNMENT", "PLUS_ASSIGNMENT", "OR_ASSIGNMENT", "AND_ASSIGNMENT",
            "XOR_ASSIGNMENT", "POSTFIX_INCREMENT", "POSTFIX_DECREMENT", "UNARY_MINUS",
            "LOGICAL_COMPLEMENT", "BITWISE_COMPLEMENT", "PLUS", "MINUS", "MULTIPLY", "DIVIDE",
            "LEFT_SHIFT", "RIGHT_SHIFT", "AND", "OR", "EQUAL_TO", "NOT_EQUAL_TO", "LESS_THAN",
            "LESS_THAN_EQUAL", "GREATER_THAN", "GREATER_THAN_EQUAL", "CONDITIONAL_AND",
            "CONDITIONAL_OR");
    private static final Set<String> LIBRARY = Set.of("java.lang.Integer.bitCount",
            "java.lang.Math.max", "java.lang.Math.min", "java.lang.System.arraycopy");
    /** The only methods that may stand in a ring of calls; both carry the depth (rule 8). */
    private static final Set<String> RING = Set.of("Planner.search", "Planner.searchDay");

    private final Trees trees;
    private final CompilationUnitTree unit;
    private final Map<String, Set<String>> calls = new HashMap<>();
    private final Set<String> face = new TreeSet<>();
    private int classes = 0;

    private LanguageTest(Trees trees, CompilationUnitTree unit) {
        this.trees = trees;
        this.unit = unit;
    }

    public static void main(String[] args) throws IOException {
        String text = Files.readString(SOURCE);
        expect(text.chars().allMatch(sign -> sign == '\n' || sign >= 32 && sign < 127), 4,
                "strange signs in the source");
        JavaCompiler compiler = ToolProvider.getSystemJavaCompiler();
        try (StandardJavaFileManager files = compiler.getStandardFileManager(null, null, null)) {
            JavacTask task = (JavacTask) compiler.getTask(null, files, null,
                    List.of("--release", "17", "-proc:none"), null, files.getJavaFileObjects(SOURCE));
            CompilationUnitTree unit = task.parse().iterator().next();
            task.analyze();
            new LanguageTest(Trees.instance(task), unit).read();
        }
        Script.end();
    }

    private void read() {
        expect(unit.getPackageName() == null && unit.getImports().isEmpty(), 1, "no package, no import");
        expect(unit.getTypeDecls().size() == 1, 1, "one class stands in the file");
        scan(unit, null);
        expect(classes <= MOST_CLASSES, 11, "more than twelve classes");
        ways();
    }

    @Override
    public Void scan(Tree tree, Void nothing) {
        if (tree != null) {
            String kind = tree.getKind().name();
            expect(KINDS.contains(kind), 6, kind + " in " + where(tree));
        }
        return super.scan(tree, nothing);
    }

    @Override
    public Void visitClass(ClassTree tree, Void nothing) {
        classes++;
        boolean isOuter = getCurrentPath().getParentPath().getLeaf() == unit;
        boolean isMember = getCurrentPath().getParentPath().getLeaf() instanceof ClassTree;
        Set<Modifier> modifiers = tree.getModifiers().getFlags();
        expect(isOuter || isMember, 2, "a local class: " + tree.getSimpleName());
        expect(modifiers.contains(isOuter ? Modifier.FINAL : Modifier.STATIC), 2,
                tree.getSimpleName() + " is not as rule 1 and 2 want it");
        expect(tree.getExtendsClause() == null && tree.getImplementsClause().isEmpty(), 2,
                tree.getSimpleName() + " stands below another class");
        long fields = tree.getMembers().stream().filter(member -> member instanceof VariableTree field
                && !field.getModifiers().getFlags().contains(Modifier.STATIC)).count();
        expect(fields <= MOST_FIELDS, 11, tree.getSimpleName() + " has " + fields + " fields");
        expect(tree.getMembers().stream().noneMatch(member -> member.getKind() == Tree.Kind.BLOCK), 5,
                tree.getSimpleName() + " has an initialiser block");
        return super.visitClass(tree, nothing);
    }

    @Override
    public Void visitMethod(MethodTree tree, Void nothing) {
        String name = nameOf((ExecutableElement) trees.getElement(getCurrentPath()));
        callsOf(name);
        if (tree.getModifiers().getFlags().contains(Modifier.PUBLIC)) {
            face.add(name);
        }
        long first = unit.getLineMap().getLineNumber(trees.getSourcePositions().getStartPosition(unit, tree));
        long last = unit.getLineMap().getLineNumber(trees.getSourcePositions().getEndPosition(unit, tree));
        // The constructor that the compiler adds has no end.
        expect(last - first < LONGEST_METHOD, 11, name + " is longer than sixty lines");
        expect(tree.getParameters().size() <= MOST_PARAMETERS, 11, name + " has too many parameters");
        expect(tree.getThrows().isEmpty() && tree.getTypeParameters().isEmpty(), 6, name + " throws");
        return super.visitMethod(tree, nothing);
    }

    @Override
    public Void visitVariable(VariableTree tree, Void nothing) {
        VariableElement variable = (VariableElement) trees.getElement(getCurrentPath());
        expect(isAllowed(variable.asType()), 3, "the type of " + where(tree));
        if (variable.getModifiers().contains(Modifier.STATIC)) {
            boolean isRow = tree.getInitializer() instanceof NewArrayTree row
                    && row.getDimensions().isEmpty() && row.getInitializers() != null
                    && variable.asType().getKind() == TypeKind.ARRAY;
            expect(variable.getModifiers().contains(Modifier.FINAL)
                    && (variable.getConstantValue() != null || isRow), 5, where(tree) + " is no constant");
        }
        return super.visitVariable(tree, nothing);
    }

    private static boolean isAllowed(TypeMirror type) {
        if (type.getKind() == TypeKind.ARRAY) {
            TypeMirror element = ((ArrayType) type).getComponentType();
            boolean isTwo = element.getKind() == TypeKind.ARRAY;
            return isTwo ? ((ArrayType) element).getComponentType().getKind() == TypeKind.INT
                    : isAllowed(element);
        }
        return type.getKind() == TypeKind.INT || type.getKind() == TypeKind.BOOLEAN
                || type.toString().startsWith("QuietStairs");
    }

    @Override
    public Void visitMethodInvocation(MethodInvocationTree tree, Void nothing) {
        ExecutableElement called = (ExecutableElement) trees.getElement(
                new TreePath(getCurrentPath(), tree.getMethodSelect()));
        String owner = ((TypeElement) called.getEnclosingElement()).getQualifiedName().toString();
        if (owner.startsWith("QuietStairs")) {
            callsOf(here()).add(nameOf(called));
        } else if (!called.getSimpleName().contentEquals("<init>")) {
            String full = owner + "." + called.getSimpleName();
            expect(LIBRARY.contains(full), 4, full + " in " + here());
        }
        return super.visitMethodInvocation(tree, nothing);
    }

    @Override
    public Void visitNewClass(NewClassTree tree, Void nothing) {
        ExecutableElement maker = (ExecutableElement) trees.getElement(getCurrentPath());
        boolean isOwn = nameOf(maker).endsWith(".<init>") && maker.getEnclosingElement().toString()
                .startsWith("QuietStairs");
        expect(isOwn && tree.getClassBody() == null, 4, "an object of another class in " + where(tree));
        // A call that makes objects again and again would fill the room.
        expect(here().endsWith("<init>") || here().equals("QuietStairs.keep"), 12,
                where(tree) + " is made in " + here());
        callsOf(here()).add(nameOf(maker));
        return super.visitNewClass(tree, nothing);
    }

    @Override
    public Void visitNewArray(NewArrayTree tree, Void nothing) {
        expect(here().endsWith("<init>"), 12, where(tree) + " is made in " + here());
        for (ExpressionTree length : tree.getDimensions()) {
            expect(constantOf(length) != null && constantOf(length) > 0, 7, "the length in " + where(tree));
        }
        return super.visitNewArray(tree, nothing);
    }

    @Override
    public Void visitBinary(BinaryTree tree, Void nothing) {
        if (tree.getKind() == Tree.Kind.DIVIDE || tree.getKind() == Tree.Kind.REMAINDER) {
            Integer divisor = constantOf(tree.getRightOperand());
            expect(divisor != null && divisor != 0, 7, "the divisor in " + where(tree));
        }
        return super.visitBinary(tree, nothing);
    }

    private Integer constantOf(ExpressionTree tree) {
        if (tree instanceof LiteralTree literal) {
            return literal.getValue() instanceof Integer number ? number : null;
        }
        Element element = trees.getElement(new TreePath(getCurrentPath(), tree));
        boolean isConstant = element instanceof VariableElement variable
                && variable.getConstantValue() instanceof Integer;
        return isConstant ? (Integer) ((VariableElement) element).getConstantValue() : null;
    }

    @Override
    public Void visitAssignment(AssignmentTree tree, Void nothing) {
        neverStatic(tree.getVariable());
        return super.visitAssignment(tree, nothing);
    }

    @Override
    public Void visitCompoundAssignment(CompoundAssignmentTree tree, Void nothing) {
        neverStatic(tree.getVariable());
        return super.visitCompoundAssignment(tree, nothing);
    }

    @Override
    public Void visitUnary(UnaryTree tree, Void nothing) {
        if (tree.getKind().name().endsWith("CREMENT")) {
            neverStatic(tree.getExpression());
        }
        return super.visitUnary(tree, nothing);
    }

    private void neverStatic(ExpressionTree target) {
        ExpressionTree row = target;
        TreePath path = new TreePath(getCurrentPath(), row);
        while (row instanceof ArrayAccessTree access) {
            row = access.getExpression();
            path = new TreePath(path, row);
        }
        Element element = trees.getElement(path);
        expect(element == null || !element.getModifiers().contains(Modifier.STATIC), 5,
                "a static row is changed: " + where(target));
    }

    @Override
    public Void visitForLoop(ForLoopTree tree, Void nothing) {
        expect(tree.getCondition() != null && !tree.getUpdate().isEmpty(), 9,
                "a loop whose end can't be seen in " + here());
        return super.visitForLoop(tree, nothing);
    }

    @Override
    public Void visitWhileLoop(WhileLoopTree tree, Void nothing) {
        // Both of them walk a row with a counter against a bound.
        expect(tree.getCondition().toString().matches("\\((place > 0|day < DAYS) && .*\\)"), 9,
                "a loop without a counter in " + here());
        return super.visitWhileLoop(tree, nothing);
    }

    /** Rules 8 and 11: rings of calls, and how deep the calls that are no recursion go. */
    private void ways() {
        expect(face.size() == 27, 1, "the face has " + face.size() + " methods with its constructor");
        for (String name : calls.keySet()) {
            Set<String> reached = new TreeSet<>();
            reach(name, reached);
            expect(!reached.contains(name) || RING.contains(name), 8, name + " calls itself");
        }
        for (String name : face) {
            int depth = deepest(name, new ArrayList<>());
            expect(depth <= DEEPEST, 11, name + " goes " + depth + " calls deep");
        }
    }

    private void reach(String name, Set<String> reached) {
        for (String next : calls.getOrDefault(name, Set.of())) {
            if (reached.add(next)) {
                reach(next, reached);
            }
        }
    }

    private int deepest(String name, List<String> way) {
        if (way.contains(name)) {
            return 0;
        }
        List<String> longer = new ArrayList<>(way);
        longer.add(name);
        int deepest = 0;
        for (String next : calls.getOrDefault(name, Set.of())) {
            deepest = Math.max(deepest, deepest(next, longer));
        }
        return deepest + 1;
    }

    private Set<String> callsOf(String name) {
        return calls.computeIfAbsent(name, key -> new TreeSet<>());
    }

    /** The method that is being read; what stands outside of methods belongs to the constructor. */
    private String here() {
        String owner = "";
        for (Tree tree : getCurrentPath()) {
            if (tree instanceof MethodTree) {
                TreePath path = trees.getPath(unit, tree);
                return nameOf((ExecutableElement) trees.getElement(path));
            }
            if (tree instanceof ClassTree inside && owner.isEmpty()) {
                owner = inside.getSimpleName().toString();
            }
        }
        return owner + ".<init>";
    }

    private static String nameOf(ExecutableElement method) {
        return method.getEnclosingElement().getSimpleName() + "." + method.getSimpleName();
    }

    private static String where(Tree tree) {
        return tree.toString().lines().findFirst().orElse("");
    }

    private static void expect(boolean holds, int rule, String text) {
        Script.due("rule " + rule, text, holds ? 1 : 0, 1);
    }
}
