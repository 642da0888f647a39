import com.sun.source.tree.*;
import com.sun.source.util.JavacTask;
import com.sun.source.util.TreePath;
import com.sun.source.util.TreePathScanner;
import com.sun.source.util.TreeScanner;
import com.sun.source.util.Trees;
import java.nio.charset.StandardCharsets;
import java.nio.file.Files;
import java.nio.file.Path;
import java.util.ArrayList;
import java.util.EnumSet;
import java.util.HashMap;
import java.util.HashSet;
import java.util.LinkedHashMap;
import java.util.LinkedHashSet;
import java.util.List;
import java.util.Map;
import java.util.Set;
import java.util.TreeMap;
import java.util.TreeSet;
import javax.lang.model.element.Element;
import javax.lang.model.element.ElementKind;
import javax.lang.model.element.ExecutableElement;
import javax.lang.model.element.Modifier;
import javax.lang.model.element.TypeElement;
import javax.lang.model.type.ArrayType;
import javax.lang.model.type.TypeKind;
import javax.lang.model.type.TypeMirror;
import javax.tools.JavaCompiler;
import javax.tools.StandardJavaFileManager;
import javax.tools.ToolProvider;

/**
 * LANGUAGE.md, rule by rule, as far as the file's own tree shows it: the compiler reads OwedDays.java
 * and each of its parts is looked at. A rule that only a run can show (7: nothing throws; 12: what is
 * made) is HardUseTest's. Where a rule allows what the class has no need of (records, lists, texts,
 * floats), this test refuses it: whoever brings it in writes its rule here.
 */
public final class LanguageTest {
    private static final Set<Tree.Kind> NEVER = EnumSet.of(Tree.Kind.THROW, Tree.Kind.TRY, Tree.Kind.CATCH, Tree.Kind.SYNCHRONIZED,
        Tree.Kind.ASSERT, Tree.Kind.LAMBDA_EXPRESSION, Tree.Kind.MEMBER_REFERENCE, Tree.Kind.INSTANCE_OF, Tree.Kind.ANNOTATION,
        Tree.Kind.ENUM, Tree.Kind.RECORD, Tree.Kind.INTERFACE, Tree.Kind.TYPE_PARAMETER, Tree.Kind.SWITCH_EXPRESSION, Tree.Kind.YIELD,
        Tree.Kind.STRING_LITERAL, Tree.Kind.FLOAT_LITERAL, Tree.Kind.DOUBLE_LITERAL, Tree.Kind.IMPORT, Tree.Kind.ENHANCED_FOR_LOOP);
    private static final Set<String> LIBRARY = Set.of("java.lang.Math.max", "java.lang.Math.min", "java.lang.System.arraycopy");
    private static final Set<String> FACE = Set.of("person", "debt", "debts", "mend", "of", "feed", "law", "worth", "ask", "has", "go", "led",
        "waits", "bestDay", "plan", "free", "ring", "wiped", "balance", "hand", "strike", "runaway", "heir", "judge", "wet", "image", "back",
        "undo", "redo", "body", "act", "trace", "keep", "row", "put", "element", "shift", "taken", "count");
    private static final int MOST_LINES = 60, MOST_PARAMETERS = 7, MOST_DEEP = 8, MOST_CLASSES = 12, MOST_FIELDS = 20;

    private static final Map<Integer, Integer> LOOKED = new TreeMap<>();
    private static int wrong = 0;

    private final CompilationUnitTree unit;
    private final Trees trees;
    private final Map<ExecutableElement, Set<ExecutableElement>> calls = new LinkedHashMap<>();
    private final Map<ExecutableElement, MethodTree> methods = new HashMap<>();
    private final Set<String> ownTypes = new HashSet<>();
    private int classes = 0;

    private LanguageTest(CompilationUnitTree unit, Trees trees) {
        this.unit = unit;
        this.trees = trees;
    }

    private void rule(int number, boolean isKept, Tree at, String what) {
        LOOKED.merge(number, 1, Integer::sum);
        if (!isKept) {
            wrong++;
            long line = at == null ? 0 : unit.getLineMap().getLineNumber(trees.getSourcePositions().getStartPosition(unit, at));
            System.out.println("rule " + number + ", line " + line + ": " + what);
        }
    }

    private long linesOf(Tree tree) {
        LineMap lines = unit.getLineMap();
        return lines.getLineNumber(trees.getSourcePositions().getEndPosition(unit, tree))
            - lines.getLineNumber(trees.getSourcePositions().getStartPosition(unit, tree)) + 1;
    }

    // ---- what is looked at in each part of the tree

    private final class Looks extends TreePathScanner<Void, Void> {
        @Override
        public Void scan(Tree tree, Void none) {
            if (tree != null && tree.getKind() != Tree.Kind.MODIFIERS) {
                int number = tree.getKind() == Tree.Kind.IMPORT ? 4 : 6;
                rule(number, !NEVER.contains(tree.getKind()), tree, "there is a " + tree.getKind());
            }
            return super.scan(tree, none);
        }

        @Override
        public Void visitClass(ClassTree tree, Void none) {
            classes++;
            lookAtClass(tree, (TypeElement) trees.getElement(getCurrentPath()), getCurrentPath().getParentPath().getLeaf());
            return super.visitClass(tree, none);
        }

        @Override
        public Void visitBlock(BlockTree tree, Void none) {
            boolean isInitialiser = getCurrentPath().getParentPath().getLeaf() instanceof ClassTree;
            rule(5, !isInitialiser, tree, "an initialiser block");
            return super.visitBlock(tree, none);
        }

        @Override
        public Void visitMethod(MethodTree tree, Void none) {
            ExecutableElement method = (ExecutableElement) trees.getElement(getCurrentPath());
            methods.put(method, tree);
            calls.computeIfAbsent(method, m -> new LinkedHashSet<>());
            lookAtMethod(tree, method);
            return super.visitMethod(tree, none);
        }

        @Override
        public Void visitVariable(VariableTree tree, Void none) {
            Element variable = trees.getElement(getCurrentPath());
            rule(3, isAllowed(variable.asType()), tree, "the type of " + tree);
            if (variable.getKind() == ElementKind.FIELD && variable.getModifiers().contains(Modifier.STATIC)) {
                lookAtStatic(tree, variable);
            }
            return super.visitVariable(tree, none);
        }

        @Override
        public Void visitMethodInvocation(MethodInvocationTree tree, Void none) {
            Element called = trees.getElement(getCurrentPath());
            TypeElement in = (TypeElement) called.getEnclosingElement();
            boolean isOwn = ownTypes.contains(in.getQualifiedName().toString());
            boolean isSuper = called.getKind() == ElementKind.CONSTRUCTOR && in.getQualifiedName().contentEquals("java.lang.Object");
            String name = in.getQualifiedName() + "." + called.getSimpleName();
            rule(4, isOwn || isSuper || LIBRARY.contains(name), tree, "a call of " + name);
            if (isOwn) {
                noteCall((ExecutableElement) called);
            }
            return super.visitMethodInvocation(tree, none);
        }

        @Override
        public Void visitNewClass(NewClassTree tree, Void none) {
            rule(2, tree.getClassBody() == null, tree, "an anonymous class");
            rule(4, isAllowed(trees.getTypeMirror(getCurrentPath())), tree, "made: " + tree);
            lookAtPlaceOfMaking(tree);
            noteCall((ExecutableElement) trees.getElement(getCurrentPath()));
            return super.visitNewClass(tree, none);
        }

        @Override
        public Void visitNewArray(NewArrayTree tree, Void none) {
            rule(3, isAllowed(trees.getTypeMirror(getCurrentPath())), tree, "the type of " + tree);
            lookAtPlaceOfMaking(tree);
            return super.visitNewArray(tree, none);
        }

        @Override
        public Void visitBinary(BinaryTree tree, Void none) {
            TypeMirror left = trees.getTypeMirror(new TreePath(getCurrentPath(), tree.getLeftOperand()));
            TypeMirror right = trees.getTypeMirror(new TreePath(getCurrentPath(), tree.getRightOperand()));
            rule(10, left.getKind().isPrimitive() && right.getKind().isPrimitive(), tree, "not of numbers: " + tree);
            if (tree.getKind() == Tree.Kind.DIVIDE || tree.getKind() == Tree.Kind.REMAINDER) {
                rule(7, isLookedAt(tree.getRightOperand(), getCurrentPath()), tree, "a divisor that is not looked at: " + tree);
            }
            return super.visitBinary(tree, none);
        }

        @Override
        public Void visitCompoundAssignment(CompoundAssignmentTree tree, Void none) {
            boolean divides = tree.getKind() == Tree.Kind.DIVIDE_ASSIGNMENT || tree.getKind() == Tree.Kind.REMAINDER_ASSIGNMENT;
            rule(7, !divides, tree, "a divisor that is not looked at: " + tree);
            lookAtAssignment(tree.getVariable(), getCurrentPath());
            return super.visitCompoundAssignment(tree, none);
        }

        @Override
        public Void visitAssignment(AssignmentTree tree, Void none) {
            lookAtAssignment(tree.getVariable(), getCurrentPath());
            return super.visitAssignment(tree, none);
        }

        @Override
        public Void visitUnary(UnaryTree tree, Void none) {
            lookAtAssignment(tree.getExpression(), getCurrentPath());
            return super.visitUnary(tree, none);
        }

        @Override
        public Void visitTypeCast(TypeCastTree tree, Void none) {
            TypeMirror to = trees.getTypeMirror(getCurrentPath());
            rule(7, to.getKind().isPrimitive() && isAllowed(to), tree, "a cast that may fail: " + tree);
            return super.visitTypeCast(tree, none);
        }

        @Override
        public Void visitForLoop(ForLoopTree tree, Void none) {
            boolean counts = tree.getUpdate().size() == 1 && tree.getInitializer().size() == 1
                && tree.getInitializer().get(0) instanceof VariableTree && tree.getCondition() != null;
            String counter = counts ? ((VariableTree) tree.getInitializer().get(0)).getName().toString() : "";
            rule(9, counts && isBound(tree.getCondition(), counter), tree, "no end is seen: " + tree);
            rule(9, counts && tree.getUpdate().get(0).toString().split("\\W")[0].equals(counter), tree, "not its counter moves on: " + tree);
            rule(9, !new Moves(counter).isMovedIn(tree.getStatement()), tree, counter + " is moved inside, too");
            return super.visitForLoop(tree, none);
        }

        @Override
        public Void visitWhileLoop(WhileLoopTree tree, Void none) {
            String condition = tree.getCondition().toString();
            String counter = condition.substring(1).split(" ")[0];
            rule(9, condition.startsWith("(" + counter + " > 0 && "), tree, "no counter down to 0: " + tree);
            rule(9, tree.getStatement().toString().replaceAll("\\s", "").startsWith("{" + counter + "--;"), tree, "it isn't counted: " + tree);
            return super.visitWhileLoop(tree, none);
        }

        @Override
        public Void visitDoWhileLoop(DoWhileLoopTree tree, Void none) {
            rule(9, false, tree, "a loop whose end no rule here sees");
            return super.visitDoWhileLoop(tree, none);
        }

        private void noteCall(ExecutableElement called) {
            TreePath at = getCurrentPath();
            while (at != null && !(at.getLeaf() instanceof MethodTree)) {
                at = at.getParentPath();
            }
            if (at != null) {
                calls.computeIfAbsent((ExecutableElement) trees.getElement(at), m -> new LinkedHashSet<>()).add(called);
            }
        }

        // What is made is made with the object: in its fields' initialisers and the constructor.
        private void lookAtPlaceOfMaking(Tree tree) {
            TreePath at = getCurrentPath();
            while (!(at.getLeaf() instanceof MethodTree) && !(at.getLeaf() instanceof ClassTree)) {
                at = at.getParentPath();
            }
            boolean byCall = at.getLeaf() instanceof MethodTree && ((MethodTree) at.getLeaf()).getReturnType() != null;
            rule(12, !byCall, tree, "made by a call: " + tree);
        }
    }

    /** Whether a counter is given another number somewhere in a statement. */
    private static final class Moves extends TreeScanner<Boolean, Void> {
        private final String counter;

        Moves(String counter) {
            this.counter = counter;
        }

        boolean isMovedIn(Tree tree) {
            return Boolean.TRUE.equals(scan(tree, null));
        }

        @Override
        public Boolean reduce(Boolean a, Boolean b) {
            return Boolean.TRUE.equals(a) || Boolean.TRUE.equals(b);
        }

        @Override
        public Boolean visitAssignment(AssignmentTree tree, Void none) {
            return reduce(tree.getVariable().toString().equals(counter), super.visitAssignment(tree, none));
        }

        @Override
        public Boolean visitCompoundAssignment(CompoundAssignmentTree tree, Void none) {
            return reduce(tree.getVariable().toString().equals(counter), super.visitCompoundAssignment(tree, none));
        }

        @Override
        public Boolean visitUnary(UnaryTree tree, Void none) {
            boolean moves = tree.getKind().name().endsWith("CREMENT");
            return reduce(moves && tree.getExpression().toString().equals(counter), super.visitUnary(tree, none));
        }
    }

    // A counter against a bound, whatever stands behind it by &&.
    private static boolean isBound(ExpressionTree condition, String counter) {
        Tree at = condition;
        while (at.getKind() == Tree.Kind.CONDITIONAL_AND) {
            at = ((BinaryTree) at).getLeftOperand();
        }
        return EnumSet.of(Tree.Kind.LESS_THAN, Tree.Kind.LESS_THAN_EQUAL, Tree.Kind.GREATER_THAN, Tree.Kind.GREATER_THAN_EQUAL)
            .contains(at.getKind()) && ((BinaryTree) at).getLeftOperand().toString().split(" ")[0].equals(counter);
    }

    // A number that is not 0, or a name that the same expression compares with 0 first: b == 0 ? .. : a / b.
    private static boolean isLookedAt(ExpressionTree divisor, TreePath division) {
        if (divisor instanceof LiteralTree) {
            return !divisor.toString().equals("0");
        }
        Tree above = division.getParentPath().getLeaf();
        return above instanceof ConditionalExpressionTree
            && ((ConditionalExpressionTree) above).getCondition().toString().equals(divisor + " == 0")
            && ((ConditionalExpressionTree) above).getFalseExpression() == division.getLeaf();
    }

    private void lookAtAssignment(ExpressionTree to, TreePath at) {
        if (to instanceof ArrayAccessTree) {
            ExpressionTree array = ((ArrayAccessTree) to).getExpression();
            Element named = trees.getElement(TreePath.getPath(at, array));
            rule(5, named == null || !named.getModifiers().contains(Modifier.STATIC), to, "a static array may be changed: " + to);
        }
    }

    private void lookAtStatic(VariableTree tree, Element field) {
        rule(5, field.getModifiers().contains(Modifier.FINAL), tree, "static and not final: " + tree);
        boolean isArray = field.asType().getKind() == TypeKind.ARRAY;
        rule(5, isArray || field.asType().getKind().isPrimitive(), tree, "no constant: " + tree);
        boolean isWrittenOut = tree.getInitializer() instanceof NewArrayTree
            && ((NewArrayTree) tree.getInitializer()).getInitializers() != null;
        rule(5, !isArray || isWrittenOut, tree, "an array that is not written out: " + tree);
    }

    private boolean isAllowed(TypeMirror type) {
        switch (type.getKind()) {
            case INT: case LONG: case SHORT: case BYTE: case CHAR: case BOOLEAN:
                return true;
            case ARRAY:
                TypeMirror of = ((ArrayType) type).getComponentType();
                boolean isRow = of.getKind() == TypeKind.ARRAY;
                return isRow ? ((ArrayType) of).getComponentType().getKind().isPrimitive() : isAllowed(of);
            case DECLARED:
                return ownTypes.contains(type.toString());
            default:
                return false;
        }
    }

    private void lookAtClass(ClassTree tree, TypeElement type, Tree in) {
        boolean isOuter = in instanceof CompilationUnitTree;
        Set<Modifier> is = type.getModifiers();
        rule(1, isOuter ? is.contains(Modifier.PUBLIC) && is.contains(Modifier.FINAL) : !is.contains(Modifier.PUBLIC)
            && !is.contains(Modifier.PROTECTED), tree, "a class of this kind: " + tree.getSimpleName());
        rule(2, isOuter || in instanceof ClassTree && is.contains(Modifier.STATIC), tree, "not static or not a member: " + tree.getSimpleName());
        int fields = 0;
        for (Tree member : tree.getMembers()) {
            if (member instanceof VariableTree && !((VariableTree) member).getModifiers().getFlags().contains(Modifier.STATIC)) {
                fields++;
            }
        }
        rule(11, fields <= MOST_FIELDS, tree, fields + " fields in " + tree.getSimpleName());
        if (isOuter) {
            lookAtFace(tree, type);
        }
    }

    private void lookAtFace(ClassTree tree, TypeElement type) {
        Set<String> met = new TreeSet<>();
        for (Element member : type.getEnclosedElements()) {
            Set<Modifier> is = member.getModifiers();
            boolean isInside = member.getKind() == ElementKind.CLASS;
            rule(1, isInside || is.contains(Modifier.PUBLIC) || is.contains(Modifier.PRIVATE), tree, member + " can be seen by others");
            if (member.getKind() == ElementKind.METHOD && is.contains(Modifier.PUBLIC)) {
                met.add(member.getSimpleName().toString());
                rule(1, !is.contains(Modifier.STATIC), tree, member + " is static");
            }
        }
        rule(1, met.equals(FACE), tree, "the face: " + met);
    }

    private void lookAtMethod(MethodTree tree, ExecutableElement method) {
        String name = tree.getName().toString();
        boolean isFace = method.getModifiers().contains(Modifier.PUBLIC);
        rule(1, isFace || !FACE.contains(name), tree, name + " bears the name of a public one");
        rule(6, !Set.of("equals", "hashCode", "toString", "compareTo").contains(name), tree, name);
        boolean isConstructor = method.getKind() == ElementKind.CONSTRUCTOR;
        boolean isVoid = method.getReturnType().getKind() == TypeKind.VOID;
        rule(3, isConstructor || isVoid || isAllowed(method.getReturnType()), tree, "what " + name + " answers");
        rule(6, tree.getThrows().isEmpty(), tree, name + " throws");
        rule(11, tree.getParameters().size() <= MOST_PARAMETERS, tree, name + " takes " + tree.getParameters().size());
        rule(11, linesOf(tree) <= MOST_LINES, tree, name + " has " + linesOf(tree) + " lines");
        rule(12, !isConstructor || !tree.getBody().toString().contains("this"), tree, "a constructor that hands out its object");
    }

    // ---- what is looked at in the calls of one another

    private Set<ExecutableElement> reachedFrom(ExecutableElement method) {
        Set<ExecutableElement> reached = new LinkedHashSet<>();
        List<ExecutableElement> next = new ArrayList<>(calls.getOrDefault(method, Set.of()));
        while (!next.isEmpty()) {
            ExecutableElement one = next.remove(next.size() - 1);
            if (reached.add(one)) {
                next.addAll(calls.getOrDefault(one, Set.of()));
            }
        }
        return reached;
    }

    private boolean isRecursive(ExecutableElement method) {
        return reachedFrom(method).contains(method);
    }

    // Methods that call one another count as one.
    private int depthOf(ExecutableElement method) {
        int deepest = 0;
        for (ExecutableElement called : calls.getOrDefault(method, Set.of())) {
            if (!reachedFrom(called).contains(method)) {
                deepest = Math.max(deepest, depthOf(called));
            } else if (!called.equals(method)) {
                for (ExecutableElement further : reachedFrom(called)) {
                    boolean leaves = !reachedFrom(further).contains(method);
                    deepest = Math.max(deepest, leaves ? depthOf(further) : 0);
                }
            }
        }
        return deepest + 1;
    }

    private void lookAtCalls() {
        int recursive = 0;
        for (Map.Entry<ExecutableElement, MethodTree> one : methods.entrySet()) {
            ExecutableElement method = one.getKey();
            if (isRecursive(method)) {
                recursive++;
                boolean carriesDepth = method.getParameters().stream()
                    .anyMatch(p -> Set.of("depth", "toCome").contains(p.getSimpleName().toString()) && p.asType().getKind() == TypeKind.INT);
                rule(8, method.getModifiers().contains(Modifier.PRIVATE), one.getValue(), method + " calls itself and is not private");
                rule(8, carriesDepth, one.getValue(), method + " calls itself and carries no depth");
            }
            int deep = depthOf(method);
            rule(11, deep <= MOST_DEEP, one.getValue(), method + " goes " + deep + " deep");
            boolean isUsed = method.getModifiers().contains(Modifier.PUBLIC) || method.getKind() == ElementKind.CONSTRUCTOR
                || calls.values().stream().anyMatch(c -> c.contains(method));
            rule(1, isUsed, one.getValue(), "nobody calls " + method);
        }
        rule(8, recursive == 5, null, recursive + " methods call themselves or one another");
        rule(11, methods.size() > 100, null, "methods are seen: " + methods.size());
    }

    private void look() {
        rule(1, unit.getTypeDecls().size() == 1 && unit.getPackage() == null, null, "one class, no package");
        new TreePathScanner<Void, Void>() {
            @Override
            public Void visitClass(ClassTree tree, Void none) {
                ownTypes.add(((TypeElement) trees.getElement(getCurrentPath())).getQualifiedName().toString());
                return super.visitClass(tree, none);
            }
        }.scan(unit, null);
        new Looks().scan(unit, null);
        rule(11, classes <= MOST_CLASSES, null, classes + " classes");
        lookAtCalls();
    }

    public static void main(String[] args) throws Exception {
        Path file = Path.of(System.getProperty("owed.source", "src/main/java/OwedDays.java"));
        String source = Files.readString(file, StandardCharsets.UTF_8);
        JavaCompiler compiler = ToolProvider.getSystemJavaCompiler();
        try (StandardJavaFileManager files = compiler.getStandardFileManager(null, null, StandardCharsets.UTF_8)) {
            JavacTask task = (JavacTask) compiler.getTask(null, files, null, List.of("-proc:none"), null, files.getJavaFileObjects(file));
            CompilationUnitTree unit = task.parse().iterator().next();
            task.analyze();
            LanguageTest test = new LanguageTest(unit, Trees.instance(task));
            test.look();
            test.rule(3, source.chars().allMatch(c -> c >= 1 && c <= 127), null, "a sign that is not 1 to 127");
        }
        int all = 0;
        StringBuilder by = new StringBuilder();
        for (Map.Entry<Integer, Integer> rule : LOOKED.entrySet()) {
            by.append(", rule ").append(rule.getKey()).append(": ").append(rule.getValue());
            all += rule.getValue();
        }
        System.out.println("LANGUAGE.md: " + all + " things looked at, " + wrong + " not so" + by);
        if (wrong != 0) {
            System.exit(1);
        }
    }
}
