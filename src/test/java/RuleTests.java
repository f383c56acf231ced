import com.sun.source.tree.*;
import com.sun.source.util.JavacTask;
import com.sun.source.util.TreePath;
import com.sun.source.util.TreePathScanner;
import com.sun.source.util.Trees;
import java.lang.reflect.Field;
import java.nio.file.Path;
import java.util.ArrayDeque;
import java.util.ArrayList;
import java.util.HashMap;
import java.util.HashSet;
import java.util.IdentityHashMap;
import java.util.List;
import java.util.Map;
import java.util.Set;
import java.util.TreeSet;
import javax.lang.model.element.Element;
import javax.lang.model.element.ElementKind;
import javax.lang.model.element.ExecutableElement;
import javax.lang.model.element.Modifier;
import javax.lang.model.type.TypeMirror;
import javax.tools.JavaCompiler;
import javax.tools.StandardJavaFileManager;
import javax.tools.ToolProvider;

/** The rules of the language that the compiler's own reading of the text can find broken. */
final class RuleTests extends TreePathScanner<Void, Void> {
    private static final Set<String> LIBRARY = Set.of(
            "java.lang.Math.max", "java.lang.Math.min", "java.lang.Math.abs", "java.lang.Math.floorDiv",
            "java.lang.Math.floorMod", "java.lang.Integer.bitCount", "java.lang.System.arraycopy",
            "java.util.Arrays.fill", "java.util.Arrays.copyOf", "java.util.Arrays.copyOfRange", "java.lang.Object.<init>");
    private static final Set<String> THROWN = Set.of("IllegalStateException", "IllegalArgumentException",
            "IndexOutOfBoundsException");
    private static final Set<Tree.Kind> REFUSED = Set.of(Tree.Kind.LAMBDA_EXPRESSION, Tree.Kind.MEMBER_REFERENCE,
            Tree.Kind.SYNCHRONIZED, Tree.Kind.ASSERT);
    /** Where the indexes of saved states are looked at; all other cells are read and written by at() and put(). */
    private static final Set<String> INDEXING = Set.of("at", "put", "History.<init>", "save", "dropOldest", "restore");

    /** Where a divisor is looked at before it divides; all other divisors are written out. */
    private static final Set<String> DIVIDING = Set.of("stepOfNumber", "stairShare", "meanThread");
    private static final Set<Tree.Kind> COMPARING = Set.of(Tree.Kind.LESS_THAN, Tree.Kind.LESS_THAN_EQUAL,
            Tree.Kind.GREATER_THAN, Tree.Kind.GREATER_THAN_EQUAL);
    private static final Set<Tree.Kind> STEPPING = Set.of(Tree.Kind.POSTFIX_INCREMENT, Tree.Kind.POSTFIX_DECREMENT);

    private final Trees trees;
    private final CompilationUnitTree unit;
    private final Map<String, Set<String>> calls = new HashMap<>();
    private final Set<String> own = new HashSet<>();
    private final Map<String, String> found = new HashMap<>();
    private int classes = 0;

    private RuleTests(Trees trees, CompilationUnitTree unit) {
        this.trees = trees;
        this.unit = unit;
    }

    static void runAll(String file) throws Exception {
        JavaCompiler compiler = ToolProvider.getSystemJavaCompiler();
        try (StandardJavaFileManager files = compiler.getStandardFileManager(null, null, null)) {
            JavacTask task = (JavacTask) compiler.getTask(null, files, null, List.of("-proc:none"), null,
                    files.getJavaFileObjects(Path.of(file)));
            CompilationUnitTree unit = task.parse().iterator().next();
            task.analyze();
            RuleTests rules = new RuleTests(Trees.instance(task), unit);
            rules.scan(unit, null);
            rules.told();
        }
    }

    private void told() {
        for (String rule : new String[] {"1", "2", "3", "4", "5", "6", "7", "9", "10", "11", "12"}) {
            Checks.test("language: rule " + rule, () -> Checks.due("breaks of rule " + rule, found.getOrDefault(rule, ""), ""));
        }
        Checks.test("language: rule 11, classes", () -> Checks.due("at most twelve", classes <= 12 ? 1 : 0, 1));
        Checks.test("language: rule 12, what an object holds", RuleTests::heldByAnObject);
        Checks.test("language: rules 8 and 11, calls at most eight deep", () -> {
            Checks.due("methods that were seen", own.size() > 100 ? 1 : 0, 1);
            for (String method : new TreeSet<>(own)) {
                Checks.due("depth below " + method, depth(method, 0) <= 8 ? 1 : 0, 1);
            }
        });
    }

    /** The room of a run, by rule 12, holds some 600,000 objects with 7.3 million fields and elements. */
    private static void heldByAnObject() {
        Map<Object, Boolean> seen = new IdentityHashMap<>();
        ArrayDeque<Object> next = new ArrayDeque<>(List.of(new SteppedSpines()));
        int parts = 0;
        while (!next.isEmpty()) {
            Object object = next.remove();
            if (seen.put(object, true) == null) {
                parts += object instanceof int[] ? ((int[]) object).length : partsOf(object, next);
            }
        }
        Checks.due("at most 200 objects", seen.size() <= 200 ? 1 : 0, 1);
        Checks.due("at most 4,000 fields and elements", parts <= 4000 ? 1 : 0, 1);
    }

    private static int partsOf(Object object, ArrayDeque<Object> next) {
        List<Object> parts = new ArrayList<>();
        try {
            for (Field field : object.getClass().isArray() ? new Field[0] : object.getClass().getDeclaredFields()) {
                if (!java.lang.reflect.Modifier.isStatic(field.getModifiers())) {
                    field.setAccessible(true);
                    parts.add(field.getType().isPrimitive() ? 0 : field.get(object));
                }
            }
        } catch (IllegalAccessException e) {
            throw new IllegalStateException(e);
        }
        if (object instanceof Object[]) {
            parts.addAll(List.of((Object[]) object));
        }
        parts.stream().filter(part -> !(part instanceof Integer)).forEach(next::add);
        return parts.size();
    }

    /** A recursion would come to more than eight, too. */
    private int depth(String method, int open) {
        int deepest = 0;
        if (open <= 8) {
            for (String called : calls.getOrDefault(method, Set.of())) {
                deepest = Math.max(deepest, depth(called, open + 1));
            }
        }
        return 1 + deepest;
    }

    private void refuse(String rule, Object what) {
        found.merge(rule, what.toString(), (old, more) -> old + "; " + more);
    }

    private static String name(ExecutableElement method) {
        return method.getEnclosingElement() + "." + method.getSimpleName();
    }

    private String around() {
        for (TreePath path = getCurrentPath(); path != null; path = path.getParentPath()) {
            if (path.getLeaf() instanceof MethodTree) {
                return name((ExecutableElement) trees.getElement(path));
            }
        }
        return "";
    }

    @Override
    public Void scan(Tree tree, Void p) {
        if (tree != null && REFUSED.contains(tree.getKind())) {
            refuse("2", tree);
        }
        return super.scan(tree, p);
    }

    @Override
    public Void visitClass(ClassTree tree, Void p) {
        classes++;
        boolean isInside = getCurrentPath().getParentPath().getLeaf() instanceof ClassTree;
        Set<Modifier> modifiers = tree.getModifiers().getFlags();
        boolean isFace = modifiers.contains(Modifier.PUBLIC) && tree.getSimpleName().contentEquals("SteppedSpines");
        if (isInside == isFace || isInside && !modifiers.contains(Modifier.STATIC)) {
            refuse("1", tree.getSimpleName());
        }
        long fields = tree.getMembers().stream().filter(m -> m instanceof VariableTree
                && !((VariableTree) m).getModifiers().getFlags().contains(Modifier.STATIC)).count();
        if (fields > 20) {
            refuse("11", tree.getSimpleName());
        }
        if (tree.getMembers().stream().anyMatch(m -> m instanceof BlockTree)) {
            refuse("5", "an initialiser block");
        }
        return super.visitClass(tree, p);
    }

    @Override
    public Void visitMethod(MethodTree tree, Void p) {
        own.add(name((ExecutableElement) trees.getElement(getCurrentPath())));
        LineMap lines = unit.getLineMap();
        long start = lines.getLineNumber(trees.getSourcePositions().getStartPosition(unit, tree));
        long end = lines.getLineNumber(trees.getSourcePositions().getEndPosition(unit, tree));
        if (end - start >= 60 || tree.getParameters().size() > 7) {
            refuse("11", tree.getName());
        }
        if (tree.getReturnType() != null) {
            lookAtType(tree.getReturnType(), tree.getName());
        }
        return super.visitMethod(tree, p);
    }

    @Override
    public Void visitVariable(VariableTree tree, Void p) {
        lookAtType(tree.getType(), tree.getName());
        Set<Modifier> modifiers = tree.getModifiers().getFlags();
        if (modifiers.contains(Modifier.STATIC) && !modifiers.contains(Modifier.FINAL)) {
            refuse("5", tree.getName());
        }
        return super.visitVariable(tree, p);
    }

    private void lookAtType(Tree type, Object where) {
        TypeMirror mirror = trees.getTypeMirror(new TreePath(getCurrentPath(), type));
        String text = mirror.toString().replaceAll("\\[\\]", "");
        boolean isNumber = Set.of("int", "long", "short", "byte", "char", "boolean", "double", "float", "void").contains(text);
        boolean isOwn = text.startsWith("SteppedSpines");
        if (!isNumber && !isOwn && !text.equals("java.lang.String") || mirror.toString().endsWith("[][]")) {
            refuse("3", where);
        }
    }

    @Override
    public Void visitMethodInvocation(MethodInvocationTree tree, Void p) {
        Element element = trees.getElement(getCurrentPath());
        String called = name((ExecutableElement) element);
        if (called.startsWith("SteppedSpines")) {
            calls.computeIfAbsent(around(), key -> new TreeSet<>()).add(called);
        } else if (!LIBRARY.contains(called)) {
            refuse("4", called);
        }
        return super.visitMethodInvocation(tree, p);
    }

    @Override
    public Void visitThrow(ThrowTree tree, Void p) {
        boolean isNew = tree.getExpression() instanceof NewClassTree;
        NewClassTree made = isNew ? (NewClassTree) tree.getExpression() : null;
        boolean isWritten = isNew && THROWN.contains(made.getIdentifier().toString())
                && made.getArguments().stream().allMatch(text -> text.getKind() == Tree.Kind.STRING_LITERAL);
        if (!isWritten || around().endsWith("<init>")) {
            refuse("6", tree);
        }
        return super.visitThrow(tree, p);
    }

    /** Stricter than the rule: what a call makes would be counted for all calls of a run. */
    @Override
    public Void visitNewClass(NewClassTree tree, Void p) {
        boolean isThrown = getCurrentPath().getParentPath().getLeaf() instanceof ThrowTree;
        if (!isThrown && !around().isEmpty() && !around().endsWith("<init>")) {
            refuse("12", tree);
        }
        return super.visitNewClass(tree, p);
    }

    @Override
    public Void visitNewArray(NewArrayTree tree, Void p) {
        if (!around().isEmpty()) {
            refuse("12", tree);
        }
        return super.visitNewArray(tree, p);
    }

    @Override
    public Void visitArrayAccess(ArrayAccessTree tree, Void p) {
        String method = around();
        if (INDEXING.stream().noneMatch(name -> method.endsWith("." + name))) {
            refuse("7", tree + " in " + method);
        }
        return super.visitArrayAccess(tree, p);
    }

    @Override
    public Void visitTypeCast(TypeCastTree tree, Void p) {
        if (!trees.getTypeMirror(getCurrentPath()).getKind().isPrimitive()) {
            refuse("7", tree);
        }
        return super.visitTypeCast(tree, p);
    }

    @Override
    public Void visitBinary(BinaryTree tree, Void p) {
        if (trees.getTypeMirror(getCurrentPath()).toString().equals("java.lang.String")) {
            refuse("10", tree);
        }
        if (tree.getKind() == Tree.Kind.DIVIDE || tree.getKind() == Tree.Kind.REMAINDER) {
            lookAtDivisor(tree.getRightOperand());
        }
        return super.visitBinary(tree, p);
    }

    private void lookAtDivisor(ExpressionTree divisor) {
        String method = around();
        boolean isWritten = divisor instanceof LiteralTree && !divisor.toString().matches("0L?|0\\.0f?");
        if (!isWritten && DIVIDING.stream().noneMatch(name -> method.endsWith("." + name))) {
            refuse("7", divisor + " in " + method);
        }
    }

    @Override
    public Void visitCompoundAssignment(CompoundAssignmentTree tree, Void p) {
        if (tree.getKind() == Tree.Kind.DIVIDE_ASSIGNMENT || tree.getKind() == Tree.Kind.REMAINDER_ASSIGNMENT) {
            refuse("7", tree);
        }
        return super.visitCompoundAssignment(tree, p);
    }

    @Override
    public Void visitForLoop(ForLoopTree tree, Void p) {
        lookAtLoop(tree.getCondition(), tree.getUpdate());
        return super.visitForLoop(tree, p);
    }

    @Override
    public Void visitWhileLoop(WhileLoopTree tree, Void p) {
        ExpressionTree condition = ((ParenthesizedTree) tree.getCondition()).getExpression();
        boolean isBlock = tree.getStatement() instanceof BlockTree;
        lookAtLoop(condition, isBlock ? ((BlockTree) tree.getStatement()).getStatements() : List.of(tree.getStatement()));
        return super.visitWhileLoop(tree, p);
    }

    @Override
    public Void visitDoWhileLoop(DoWhileLoopTree tree, Void p) {
        refuse("9", tree);
        return super.visitDoWhileLoop(tree, p);
    }

    /** Stricter than the rule: each turn counts a variable, up or down, that has to be within a bound to go on. */
    private void lookAtLoop(ExpressionTree condition, List<? extends StatementTree> turn) {
        boolean hasEnd = turn.stream().anyMatch(step -> step instanceof ExpressionStatementTree
                && STEPPING.contains(((ExpressionStatementTree) step).getExpression().getKind())
                && bounds(condition, ((UnaryTree) ((ExpressionStatementTree) step).getExpression()).getExpression()));
        if (!hasEnd) {
            refuse("9", "a loop of " + around());
        }
    }

    private static boolean bounds(ExpressionTree condition, ExpressionTree counter) {
        if (condition == null) {
            return false;
        }
        if (condition.getKind() == Tree.Kind.CONDITIONAL_AND) {
            BinaryTree both = (BinaryTree) condition;
            return bounds(both.getLeftOperand(), counter) || bounds(both.getRightOperand(), counter);
        }
        return COMPARING.contains(condition.getKind())
                && ((BinaryTree) condition).getLeftOperand().toString().equals(counter.toString());
    }

    @Override
    public Void visitIdentifier(IdentifierTree tree, Void p) {
        Element element = trees.getElement(getCurrentPath());
        if (element != null && element.getKind() == ElementKind.CLASS
                && !Set.of("Math", "Integer", "System", "Arrays", "String").contains(tree.toString())
                && !THROWN.contains(tree.toString()) && !element.toString().startsWith("SteppedSpines")) {
            refuse("4", tree);
        }
        return super.visitIdentifier(tree, p);
    }
}
