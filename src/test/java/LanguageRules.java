import com.sun.source.tree.ArrayAccessTree;
import com.sun.source.tree.ArrayTypeTree;
import com.sun.source.tree.AssertTree;
import com.sun.source.tree.AssignmentTree;
import com.sun.source.tree.BinaryTree;
import com.sun.source.tree.BlockTree;
import com.sun.source.tree.ClassTree;
import com.sun.source.tree.CompilationUnitTree;
import com.sun.source.tree.CompoundAssignmentTree;
import com.sun.source.tree.DoWhileLoopTree;
import com.sun.source.tree.ExpressionTree;
import com.sun.source.tree.ForLoopTree;
import com.sun.source.tree.IdentifierTree;
import com.sun.source.tree.ImportTree;
import com.sun.source.tree.LambdaExpressionTree;
import com.sun.source.tree.LiteralTree;
import com.sun.source.tree.MemberReferenceTree;
import com.sun.source.tree.MethodInvocationTree;
import com.sun.source.tree.MethodTree;
import com.sun.source.tree.NewArrayTree;
import com.sun.source.tree.NewClassTree;
import com.sun.source.tree.SynchronizedTree;
import com.sun.source.tree.ThrowTree;
import com.sun.source.tree.Tree;
import com.sun.source.tree.TryTree;
import com.sun.source.tree.TypeCastTree;
import com.sun.source.tree.UnaryTree;
import com.sun.source.tree.VariableTree;
import com.sun.source.tree.WhileLoopTree;
import com.sun.source.util.TreePath;
import com.sun.source.util.TreePathScanner;
import com.sun.source.util.TreeScanner;
import com.sun.source.util.Trees;
import java.util.LinkedHashMap;
import java.util.LinkedHashSet;
import java.util.Map;
import java.util.Set;
import java.util.TreeSet;
import javax.lang.model.element.Element;
import javax.lang.model.element.ElementKind;
import javax.lang.model.element.Modifier;
import javax.lang.model.element.VariableElement;
import javax.lang.model.type.TypeKind;

/**
 * Goes through the program's syntax tree and checks the rules of LANGUAGE.md. Where a rule allows more than the program
 * needs (casts, while, objects made by calls), what it needs is checked: who needs more looks the rule up first.
 */
final class LanguageRules extends TreePathScanner<Void, Void> {
    private static final Set<String> LIBRARY = Set.of("java.util.Arrays.fill", "java.lang.Integer.bitCount");
    private static final Set<String> EXCEPTIONS = Set.of("IllegalStateException", "IllegalArgumentException",
            "IndexOutOfBoundsException");
    private static final Set<String> TYPES = Set.of("void", "int", "boolean", "int[]");
    private static final int MOST_PARAMETERS = 7;
    private static final int MOST_LINES = 60;
    private static final int MOST_DEPTH = 8;
    private static final int MOST_CLASSES = 12;
    private static final int MOST_FIELDS = 20;

    private final CompilationUnitTree program;
    private final Trees trees;
    private final Set<String> classes = new TreeSet<>();
    private final Set<String> publicNames = new TreeSet<>();
    private final Set<String> otherNames = new TreeSet<>();
    /** Which own methods and constructors each one calls. */
    private final Map<Element, Set<Element>> calls = new LinkedHashMap<>();

    LanguageRules(CompilationUnitTree program, Trees trees) {
        this.program = program;
        this.trees = trees;
    }

    private void due(int rule, String what, boolean isKept, Tree where) {
        long line = program.getLineMap().getLineNumber(startOf(where));
        Check.due("rule " + rule + ", line " + line + ": " + what, true, isKept);
    }

    private long startOf(Tree tree) {
        return trees.getSourcePositions().getStartPosition(program, tree);
    }

    private long linesOf(Tree tree) {
        long end = trees.getSourcePositions().getEndPosition(program, tree);
        return program.getLineMap().getLineNumber(end) - program.getLineMap().getLineNumber(startOf(tree)) + 1;
    }

    private Element elementOf(Tree tree) {
        return trees.getElement(new TreePath(getCurrentPath(), tree));
    }

    private <T extends Tree> T enclosing(Class<T> kind) {
        for (TreePath path = getCurrentPath(); path != null; path = path.getParentPath()) {
            if (kind.isInstance(path.getLeaf())) {
                return kind.cast(path.getLeaf());
            }
        }
        return null;
    }

    private static boolean isConstructor(MethodTree method) {
        return method != null && method.getReturnType() == null;
    }

    // ---- what can be said when all is seen

    void checkWhole() {
        Check.due("rule 11: classes", true, classes.size() <= MOST_CLASSES);
        Set<String> twice = new TreeSet<>(publicNames);
        twice.retainAll(otherNames);
        Check.due("rule 1: other methods with the names of public ones", "[]", twice.toString());
        Check.due("rule 1: public methods", 29, publicNames.size());
        Check.due("methods that were seen", true, calls.size() > 80);
        for (Element method : calls.keySet()) {
            int depth = depthOf(method, new LinkedHashSet<>());
            Check.due("rules 8 and 11: how deep the calls of " + method + " go (" + depth + ")", true, depth <= MOST_DEPTH);
        }
    }

    /** How many calls stand open at once at most; above what is allowed if a method comes to call itself. */
    private int depthOf(Element method, Set<Element> open) {
        if (!open.add(method)) {
            return MOST_DEPTH + 1;
        }
        int deepest = 0;
        for (Element callee : calls.getOrDefault(method, Set.of())) {
            deepest = Math.max(deepest, depthOf(callee, open));
        }
        open.remove(method);
        return deepest + 1;
    }

    // ---- rules 1, 2, 5 and 11: classes and their members

    @Override
    public Void visitCompilationUnit(CompilationUnitTree unit, Void none) {
        due(1, "no package line", unit.getPackageName() == null, unit);
        due(1, "one class outside of all others", unit.getTypeDecls().size() == 1, unit);
        return super.visitCompilationUnit(unit, none);
    }

    @Override
    public Void visitImport(ImportTree tree, Void none) {
        due(4, "an import", tree.getQualifiedIdentifier().toString().equals("java.util.Arrays"), tree);
        return super.visitImport(tree, none);
    }

    @Override
    public Void visitClass(ClassTree tree, Void none) {
        boolean isOutermost = getCurrentPath().getParentPath().getLeaf() == program;
        Set<Modifier> flags = tree.getModifiers().getFlags();
        Set<Modifier> want = isOutermost ? Set.of(Modifier.PUBLIC, Modifier.FINAL)
                : Set.of(Modifier.PRIVATE, Modifier.STATIC, Modifier.FINAL);
        due(1, "the modifiers of " + tree.getSimpleName(), flags.equals(want), tree);
        due(2, "no class inside a method", enclosing(MethodTree.class) == null, tree);
        classes.add(tree.getSimpleName().toString());
        int fields = 0;
        for (Tree member : tree.getMembers()) {
            due(5, "no block of its own", !(member instanceof BlockTree), member);
            boolean isField = member instanceof VariableTree;
            boolean isStatic = isField && ((VariableTree) member).getModifiers().getFlags().contains(Modifier.STATIC);
            fields += isField && !isStatic ? 1 : 0;
            due(5, "a static field is a constant", !isStatic || isConstant(member), member);
        }
        due(11, "fields of " + tree.getSimpleName(), fields <= MOST_FIELDS, tree);
        return super.visitClass(tree, none);
    }

    private boolean isConstant(Tree tree) {
        Element element = elementOf(tree);
        return element instanceof VariableElement && ((VariableElement) element).getConstantValue() != null;
    }

    @Override
    public Void visitMethod(MethodTree tree, Void none) {
        boolean isPublic = tree.getModifiers().getFlags().contains(Modifier.PUBLIC);
        if (!isConstructor(tree)) {
            (isPublic ? publicNames : otherNames).add(tree.getName().toString());
        }
        due(11, "parameters", tree.getParameters().size() <= MOST_PARAMETERS, tree);
        due(11, "lines", linesOf(tree) <= MOST_LINES, tree);
        calls.put(elementOf(tree), new LinkedHashSet<>());
        if (tree.getReturnType() != null) {
            checkType(tree.getReturnType());
        }
        return super.visitMethod(tree, none);
    }

    // ---- rules 3, 4, 10 and 13: types and the library

    @Override
    public Void visitVariable(VariableTree tree, Void none) {
        checkType(tree.getType());
        return super.visitVariable(tree, none);
    }

    private void checkType(Tree type) {
        String name = type.toString();
        Tree element = type instanceof ArrayTypeTree ? ((ArrayTypeTree) type).getType() : type;
        due(3, "the type " + name, TYPES.contains(name) || isOwn(elementOf(element)), type);
    }

    private boolean isOwn(Element element) {
        for (Element outer = element; outer != null; outer = outer.getEnclosingElement()) {
            if (outer.getSimpleName().contentEquals("FleetSettings")) {
                return true;
            }
        }
        return false;
    }

    @Override
    public Void visitMethodInvocation(MethodInvocationTree tree, Void none) {
        Element callee = elementOf(tree);
        String name = callee.getEnclosingElement() + "." + callee.getSimpleName();
        boolean isSuperCall = name.equals("java.lang.Object.<init>");
        due(4, "a call of " + name, isOwn(callee) || isSuperCall || LIBRARY.contains(name), tree);
        addCall(callee);
        return super.visitMethodInvocation(tree, none);
    }

    private void addCall(Element callee) {
        MethodTree caller = enclosing(MethodTree.class);
        if (caller != null && isOwn(callee)) {
            calls.get(trees.getElement(pathOf(caller))).add(callee);
        }
    }

    private TreePath pathOf(Tree tree) {
        TreePath path = getCurrentPath();
        while (path.getLeaf() != tree) {
            path = path.getParentPath();
        }
        return path;
    }

    @Override
    public Void visitBinary(BinaryTree tree, Void none) {
        boolean isText = trees.getTypeMirror(getCurrentPath()).getKind() == TypeKind.DECLARED;
        due(10, "texts are not joined by +", !isText, tree);
        boolean isDivision = tree.getKind() == Tree.Kind.DIVIDE || tree.getKind() == Tree.Kind.REMAINDER;
        due(7, "a divisor is a constant", !isDivision || isConstantAboveZero(tree.getRightOperand()), tree);
        return super.visitBinary(tree, none);
    }

    private boolean isConstantAboveZero(Tree tree) {
        return isConstant(tree) && (int) ((VariableElement) elementOf(tree)).getConstantValue() > 0;
    }

    @Override
    public Void visitCompoundAssignment(CompoundAssignmentTree tree, Void none) {
        boolean isDivision = tree.getKind() == Tree.Kind.DIVIDE_ASSIGNMENT
                || tree.getKind() == Tree.Kind.REMAINDER_ASSIGNMENT;
        due(7, "no division in an assignment", !isDivision, tree);
        return super.visitCompoundAssignment(tree, none);
    }

    // ---- rule 6: exceptions

    @Override
    public Void visitThrow(ThrowTree tree, Void none) {
        boolean isNew = tree.getExpression() instanceof NewClassTree;
        due(6, "what is thrown is new", isNew, tree);
        if (isNew) {
            NewClassTree made = (NewClassTree) tree.getExpression();
            due(6, "the exception", EXCEPTIONS.contains(made.getIdentifier().toString()), tree);
            boolean isWritten = made.getArguments().size() == 1 && made.getArguments().get(0) instanceof LiteralTree;
            due(6, "its text is a written one", isWritten, tree);
        }
        due(6, "not in a constructor", !isConstructor(enclosing(MethodTree.class)), tree);
        return super.visitThrow(tree, none);
    }

    @Override
    public Void visitTry(TryTree tree, Void none) {
        due(6, "no try", false, tree);
        return super.visitTry(tree, none);
    }

    @Override
    public Void visitSynchronized(SynchronizedTree tree, Void none) {
        due(6, "no synchronized", false, tree);
        return super.visitSynchronized(tree, none);
    }

    @Override
    public Void visitAssert(AssertTree tree, Void none) {
        due(6, "no assert", false, tree);
        return super.visitAssert(tree, none);
    }

    @Override
    public Void visitLambdaExpression(LambdaExpressionTree tree, Void none) {
        due(2, "no lambda", false, tree);
        return super.visitLambdaExpression(tree, none);
    }

    @Override
    public Void visitMemberReference(MemberReferenceTree tree, Void none) {
        due(2, "no method reference", false, tree);
        return super.visitMemberReference(tree, none);
    }

    // ---- rule 7: what could throw by itself

    /** What has no name can not have been looked at before. */
    @Override
    public Void visitArrayAccess(ArrayAccessTree tree, Void none) {
        due(7, "an index has a name", tree.getIndex() instanceof IdentifierTree, tree);
        boolean isField = elementOf(tree.getIndex()).getKind() == ElementKind.FIELD;
        due(7, "a field is compared where it is an index", !isField || isCompared(tree.getIndex()), tree);
        return super.visitArrayAccess(tree, none);
    }

    private boolean isCompared(Tree index) {
        Comparisons comparisons = new Comparisons(index.toString());
        comparisons.scan(enclosing(MethodTree.class), null);
        return comparisons.isFound;
    }

    /** Looks for a comparison with a name. */
    private static final class Comparisons extends TreeScanner<Void, Void> {
        private static final Set<Tree.Kind> KINDS = Set.of(Tree.Kind.LESS_THAN, Tree.Kind.LESS_THAN_EQUAL,
                Tree.Kind.GREATER_THAN, Tree.Kind.GREATER_THAN_EQUAL);

        final String name;
        boolean isFound;

        Comparisons(String name) {
            this.name = name;
        }

        @Override
        public Void visitBinary(BinaryTree tree, Void none) {
            boolean isNamed = isName(tree.getLeftOperand()) || isName(tree.getRightOperand());
            isFound |= isNamed && KINDS.contains(tree.getKind());
            return super.visitBinary(tree, none);
        }

        private boolean isName(Tree tree) {
            return tree instanceof IdentifierTree && tree.toString().equals(name);
        }
    }

    @Override
    public Void visitTypeCast(TypeCastTree tree, Void none) {
        due(7, "no cast", false, tree);
        return super.visitTypeCast(tree, none);
    }

    @Override
    public Void visitNewArray(NewArrayTree tree, Void none) {
        for (ExpressionTree length : tree.getDimensions()) {
            due(7, "the length of an array is a constant", isConstantAboveZero(length), tree);
        }
        checkMade(tree);
        return super.visitNewArray(tree, none);
    }

    // ---- rule 9: loops

    @Override
    public Void visitForLoop(ForLoopTree tree, Void none) {
        due(9, "one step", tree.getUpdate().size() == 1, tree);
        String step = tree.getUpdate().toString();
        String counter = step.replaceAll("\\W", "");
        due(9, "the step counts: " + step, step.matches("\\w+(\\+\\+|--);"), tree);
        Comparisons comparisons = new Comparisons(counter);
        comparisons.scan(tree.getCondition(), null);
        due(9, "the counter is compared with a bound", comparisons.isFound, tree);
        Assignments assignments = new Assignments(counter);
        assignments.scan(tree.getStatement(), null);
        due(9, "nothing else moves the counter", !assignments.isFound, tree);
        return super.visitForLoop(tree, none);
    }

    /** Looks for what gives a name another value. */
    private static final class Assignments extends TreeScanner<Void, Void> {
        final String name;
        boolean isFound;

        Assignments(String name) {
            this.name = name;
        }

        @Override
        public Void visitAssignment(AssignmentTree tree, Void none) {
            isFound |= tree.getVariable().toString().equals(name);
            return super.visitAssignment(tree, none);
        }

        @Override
        public Void visitCompoundAssignment(CompoundAssignmentTree tree, Void none) {
            isFound |= tree.getVariable().toString().equals(name);
            return super.visitCompoundAssignment(tree, none);
        }

        @Override
        public Void visitUnary(UnaryTree tree, Void none) {
            boolean isMoved = tree.getKind() != Tree.Kind.UNARY_MINUS && tree.getKind() != Tree.Kind.LOGICAL_COMPLEMENT
                    && tree.getKind() != Tree.Kind.BITWISE_COMPLEMENT;
            isFound |= isMoved && tree.getExpression().toString().equals(name);
            return super.visitUnary(tree, none);
        }
    }

    @Override
    public Void visitWhileLoop(WhileLoopTree tree, Void none) {
        due(9, "no while, as for shows its end", false, tree);
        return super.visitWhileLoop(tree, none);
    }

    @Override
    public Void visitDoWhileLoop(DoWhileLoopTree tree, Void none) {
        due(9, "no do, as for shows its end", false, tree);
        return super.visitDoWhileLoop(tree, none);
    }

    // ---- rule 12: objects

    @Override
    public Void visitNewClass(NewClassTree tree, Void none) {
        due(4, "an object of " + tree.getIdentifier(), isOwn(elementOf(tree)) || enclosing(ThrowTree.class) != null, tree);
        checkMade(tree);
        return super.visitNewClass(tree, none);
    }

    /** All rows are made with the store, so that a call makes nothing but the exception that it throws. */
    private void checkMade(Tree tree) {
        MethodTree method = enclosing(MethodTree.class);
        boolean isMadeFirst = method == null || isConstructor(method);
        due(12, "made with the store, or thrown", isMadeFirst || enclosing(ThrowTree.class) != null, tree);
    }
}
