import com.sun.source.tree.ArrayAccessTree;
import com.sun.source.tree.BinaryTree;
import com.sun.source.tree.BlockTree;
import com.sun.source.tree.ClassTree;
import com.sun.source.tree.CompilationUnitTree;
import com.sun.source.tree.ForLoopTree;
import com.sun.source.tree.IdentifierTree;
import com.sun.source.tree.LineMap;
import com.sun.source.tree.MethodInvocationTree;
import com.sun.source.tree.MethodTree;
import com.sun.source.tree.NewArrayTree;
import com.sun.source.tree.NewClassTree;
import com.sun.source.tree.ThrowTree;
import com.sun.source.tree.Tree;
import com.sun.source.tree.Tree.Kind;
import com.sun.source.tree.VariableTree;
import com.sun.source.util.JavacTask;
import com.sun.source.util.TreePath;
import com.sun.source.util.TreePathScanner;
import com.sun.source.util.Trees;
import java.nio.file.Files;
import java.nio.file.Path;
import java.util.EnumSet;
import java.util.HashMap;
import java.util.HashSet;
import java.util.List;
import java.util.Map;
import java.util.Set;
import java.util.TreeSet;
import javax.lang.model.element.Element;
import javax.lang.model.element.Modifier;
import javax.lang.model.element.VariableElement;
import javax.tools.JavaCompiler;
import javax.tools.StandardJavaFileManager;
import javax.tools.ToolProvider;

/** The rules of ../shared/LANGUAGE.md, read from the compiler's tree of the source. */
final class SourceTest extends TreePathScanner<Void, Void> {
    private static final Path SOURCE = Path.of("src", "main", "java", "CarriedNumbers.java");
    private static final Set<String> EXCEPTIONS = Set.of(
        "IllegalStateException", "IllegalArgumentException", "IndexOutOfBoundsException");
    private static final Set<String> OF_MATH = Set.of("compare", "max", "min", "abs");

    /** What the class is written in; hold another kind against rules 1 to 10 before it comes in. */
    private static final Set<Kind> KINDS = EnumSet.of(
        Kind.CLASS, Kind.METHOD, Kind.VARIABLE, Kind.MODIFIERS, Kind.BLOCK, Kind.IDENTIFIER,
        Kind.PRIMITIVE_TYPE, Kind.ARRAY_TYPE, Kind.MEMBER_SELECT, Kind.METHOD_INVOCATION,
        Kind.NEW_CLASS, Kind.NEW_ARRAY, Kind.ARRAY_ACCESS, Kind.IF, Kind.FOR_LOOP, Kind.RETURN,
        Kind.THROW, Kind.EXPRESSION_STATEMENT, Kind.ASSIGNMENT, Kind.PLUS_ASSIGNMENT,
        Kind.POSTFIX_INCREMENT, Kind.POSTFIX_DECREMENT, Kind.PARENTHESIZED,
        Kind.CONDITIONAL_EXPRESSION, Kind.CONDITIONAL_AND, Kind.CONDITIONAL_OR, Kind.EQUAL_TO,
        Kind.NOT_EQUAL_TO, Kind.LESS_THAN, Kind.LESS_THAN_EQUAL, Kind.GREATER_THAN,
        Kind.GREATER_THAN_EQUAL, Kind.PLUS, Kind.MINUS, Kind.MULTIPLY, Kind.DIVIDE, Kind.REMAINDER,
        Kind.UNARY_MINUS, Kind.LOGICAL_COMPLEMENT, Kind.INT_LITERAL, Kind.BOOLEAN_LITERAL,
        Kind.STRING_LITERAL);

    private final Check check = new Check("SourceTest");
    private final Map<Element, Set<Element>> calls = new HashMap<>();
    private final Set<String> shown = new TreeSet<>();
    private final Set<String> hidden = new TreeSet<>();
    private final Set<String> classes = new TreeSet<>();
    private Trees trees;
    private CompilationUnitTree unit;

    private SourceTest() {
    }

    public static void main(String[] args) throws Exception {
        SourceTest test = new SourceTest();
        test.readSource();
        test.check.end();
    }

    private void readSource() throws Exception {
        check.same("signs 1 to 127", 0, Files.readString(SOURCE).chars().filter(c -> c > 127).count());
        JavaCompiler compiler = ToolProvider.getSystemJavaCompiler();
        try (StandardJavaFileManager files = compiler.getStandardFileManager(null, null, null)) {
            JavacTask task = (JavacTask) compiler.getTask(
                null, files, null, List.of("-proc:none"), null, files.getJavaFileObjects(SOURCE));
            unit = task.parse().iterator().next();
            task.analyze();
            trees = Trees.instance(task);
            holds("1: no package line and no import", unit,
                unit.getPackage() == null && unit.getImports().isEmpty());
            holds("1: one class", unit, unit.getTypeDecls().size() == 1);
            scan(new TreePath(unit), null);
        }
        afterAll();
    }

    private void holds(String rule, Tree at, boolean isSo) {
        LineMap lines = unit.getLineMap();
        long start = trees.getSourcePositions().getStartPosition(unit, at);
        String place = start < 0 ? "" : ", line " + lines.getLineNumber(start);
        check.same("rule " + rule + place, 1, isSo ? 1 : 0);
    }

    private void afterAll() {
        shown.retainAll(hidden);
        check.same("rule 1: no other method bears the name of a public one", "[]", shown.toString());
        check.same("rule 11: at most some twelve classes", 1, classes.size() <= 12 ? 1 : 0);
        int deepest = 0;
        for (Element method : calls.keySet()) {
            deepest = Math.max(deepest, depth(method, 1));
        }
        check.same("rules 8, 11: calls go at most eight deep", 1, deepest <= 8 ? 1 : 0);
        check.same("calls are seen", 1, deepest > 3 ? 1 : 0);
    }

    /** A chain that comes back to its beginning never ends: it is cut where it is too deep. */
    private int depth(Element method, int above) {
        int deepest = above;
        if (above > 20) {
            return above;
        }
        for (Element called : calls.getOrDefault(method, Set.of())) {
            deepest = Math.max(deepest, depth(called, above + 1));
        }
        return deepest;
    }

    private Element element() {
        return trees.getElement(getCurrentPath());
    }

    private static boolean isOwn(Element element) {
        for (Element e = element; e != null; e = e.getEnclosingElement()) {
            if (e.toString().equals("CarriedNumbers")) {
                return true;
            }
        }
        return false;
    }

    /** The tree of that kind that holds the current one; null if there is none. */
    private Tree around(Kind kind) {
        for (TreePath p = getCurrentPath().getParentPath(); p != null; p = p.getParentPath()) {
            if (p.getLeaf().getKind() == kind) {
                return p.getLeaf();
            }
        }
        return null;
    }

    private boolean inConstructor() {
        Tree method = around(Kind.METHOD);
        return method != null && ((MethodTree) method).getReturnType() == null;
    }

    private boolean inRow() {
        Tree row = around(Kind.CLASS);
        return row != null && ((ClassTree) row).getSimpleName().contentEquals("Row");
    }

    @Override
    public Void scan(Tree tree, Void none) {
        if (tree != null) {
            holds("2, 3, 10: no " + tree.getKind(), tree, KINDS.contains(tree.getKind()));
        }
        return super.scan(tree, none);
    }

    @Override
    public Void visitClass(ClassTree tree, Void none) {
        classes.add(tree.getSimpleName().toString());
        Set<Modifier> flags = tree.getModifiers().getFlags();
        boolean inside = around(Kind.CLASS) != null;
        holds("1, 2: a class inside is private and static", tree,
            !inside || flags.contains(Modifier.PRIVATE) && flags.contains(Modifier.STATIC));
        holds("12: no class is overridden", tree,
            flags.contains(Modifier.FINAL) && tree.getExtendsClause() == null);
        int fields = 0;
        for (Tree member : tree.getMembers()) {
            holds("5: no initialiser block", member, !(member instanceof BlockTree));
            boolean own = member instanceof VariableTree field
                && !field.getModifiers().getFlags().contains(Modifier.STATIC);
            fields += own ? 1 : 0;
        }
        holds("11: at most some twenty fields", tree, fields <= 20);
        return super.visitClass(tree, none);
    }

    @Override
    public Void visitMethod(MethodTree tree, Void none) {
        boolean isPublic = tree.getModifiers().getFlags().contains(Modifier.PUBLIC);
        (isPublic ? shown : hidden).add(isPublic || tree.getReturnType() != null
            ? tree.getName().toString() : "a constructor");
        holds("11: at most seven parameters", tree, tree.getParameters().size() <= 7);
        LineMap lines = unit.getLineMap();
        long from = trees.getSourcePositions().getStartPosition(unit, tree);
        long to = trees.getSourcePositions().getEndPosition(unit, tree);
        boolean isShort = to < 0 || lines.getLineNumber(to) - lines.getLineNumber(from) <= 60;
        holds("11: some sixty lines", tree, isShort);
        return super.visitMethod(tree, none);
    }

    @Override
    public Void visitVariable(VariableTree tree, Void none) {
        String type = tree.getType().toString();
        Element named = trees.getElement(new TreePath(getCurrentPath(), tree.getType()));
        boolean own = named != null && isOwn(named);
        holds("3: type " + type, tree, own || Set.of("int", "boolean", "int[]").contains(type));
        if (tree.getModifiers().getFlags().contains(Modifier.STATIC)) {
            Object constant = ((VariableElement) element()).getConstantValue();
            holds("5: a static field is a constant", tree, constant instanceof Integer);
        }
        return super.visitVariable(tree, none);
    }

    @Override
    public Void visitMethodInvocation(MethodInvocationTree tree, Void none) {
        Element called = element();
        String owner = called.getEnclosingElement().toString();
        boolean own = isOwn(called);
        boolean constructor = called.getSimpleName().contentEquals("<init>");
        boolean ofMath = owner.equals("java.lang.Math")
            && OF_MATH.contains(called.getSimpleName().toString());
        holds("4: library " + owner + "." + called, tree, own || ofMath || constructor);
        Tree method = around(Kind.METHOD);
        if (own && method != null) {
            Element caller = trees.getElement(trees.getPath(unit, method));
            calls.computeIfAbsent(caller, k -> Set.of());
            calls.merge(caller, Set.of(called), SourceTest::union);
        }
        return super.visitMethodInvocation(tree, none);
    }

    @Override
    public Void visitIdentifier(IdentifierTree tree, Void none) {
        holds("12: no object hands itself out", tree, !tree.getName().contentEquals("this"));
        return super.visitIdentifier(tree, none);
    }

    private static Set<Element> union(Set<Element> one, Set<Element> other) {
        Set<Element> all = new HashSet<>(one);
        all.addAll(other);
        return all;
    }

    @Override
    public Void visitThrow(ThrowTree tree, Void none) {
        boolean isNew = tree.getExpression() instanceof NewClassTree;
        holds("6: throw new", tree, isNew);
        if (isNew) {
            NewClassTree made = (NewClassTree) tree.getExpression();
            boolean written = made.getArguments().size() == 1
                && made.getArguments().get(0).getKind() == Kind.STRING_LITERAL;
            holds("6: a written text", tree, written || made.getArguments().isEmpty());
            holds("6: one of these", tree, EXCEPTIONS.contains(made.getIdentifier().toString()));
        }
        holds("6: no throw in a constructor", tree, !inConstructor());
        return super.visitThrow(tree, none);
    }

    @Override
    public Void visitNewClass(NewClassTree tree, Void none) {
        boolean thrown = getCurrentPath().getParentPath().getLeaf().getKind() == Kind.THROW;
        holds("12: only a constructor makes objects", tree, thrown || inConstructor());
        holds("12: none in a loop", tree, around(Kind.FOR_LOOP) == null);
        holds("2: no class of no name", tree, tree.getClassBody() == null);
        return super.visitNewClass(tree, none);
    }

    @Override
    public Void visitNewArray(NewArrayTree tree, Void none) {
        holds("7, 12: only a Row makes an array", tree, inRow() && inConstructor());
        holds("7: of no length below 0", tree,
            tree.getDimensions().toString().equals("Math.max(length, 0)"));
        return super.visitNewArray(tree, none);
    }

    /** In a Row each index stands behind its bounds: in the same if, for or ?: as their test. */
    @Override
    public Void visitArrayAccess(ArrayAccessTree tree, Void none) {
        String index = tree.getIndex().toString();
        boolean guarded = false;
        for (TreePath p = getCurrentPath(); p != null; p = p.getParentPath()) {
            Kind kind = p.getLeaf().getKind();
            boolean tests = kind == Kind.IF || kind == Kind.FOR_LOOP
                || kind == Kind.CONDITIONAL_EXPRESSION;
            String text = tests ? p.getLeaf().toString() : "";
            boolean notBelow = text.contains(index + " >= 0 && ") || text.contains("int i = 0;");
            guarded |= notBelow && text.contains(index + " < cells.length");
        }
        holds("7: an index is looked at before it is used", tree, guarded && inRow());
        return super.visitArrayAccess(tree, none);
    }

    @Override
    public Void visitBinary(BinaryTree tree, Void none) {
        if (tree.getKind() == Kind.DIVIDE || tree.getKind() == Kind.REMAINDER) {
            Tree divisor = tree.getRightOperand();
            Element named = trees.getElement(new TreePath(getCurrentPath(), divisor));
            Object constant = named instanceof VariableElement v ? v.getConstantValue() : null;
            holds("7: a divisor is a constant", tree, constant instanceof Integer i && i != 0);
        }
        return super.visitBinary(tree, none);
    }

    @Override
    public Void visitForLoop(ForLoopTree tree, Void none) {
        boolean counts = tree.getUpdate().size() == 1 && tree.getCondition() != null
            && tree.getUpdate().get(0).toString().matches("(\\w+)(\\+\\+|--);?");
        holds("9: a loop counts", tree, counts);
        if (counts) {
            String counter = tree.getUpdate().get(0).toString().replaceAll("\\W", "");
            String condition = tree.getCondition().toString();
            holds("9: against a bound", tree, condition.matches("\\W*" + counter + " (<|>=) .*"));
            String body = tree.getStatement().toString();
            boolean leftAlone = !body.matches("(?s).*\\b" + counter + "( = |\\+\\+|--| \\+= | -= ).*");
            holds("9: its counter is left alone", tree, leftAlone);
        }
        return super.visitForLoop(tree, none);
    }
}
