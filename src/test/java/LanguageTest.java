import com.sun.source.tree.ArrayAccessTree;
import com.sun.source.tree.AssertTree;
import com.sun.source.tree.BinaryTree;
import com.sun.source.tree.BlockTree;
import com.sun.source.tree.ClassTree;
import com.sun.source.tree.CompilationUnitTree;
import com.sun.source.tree.DoWhileLoopTree;
import com.sun.source.tree.EnhancedForLoopTree;
import com.sun.source.tree.ForLoopTree;
import com.sun.source.tree.ImportTree;
import com.sun.source.tree.InstanceOfTree;
import com.sun.source.tree.LambdaExpressionTree;
import com.sun.source.tree.LiteralTree;
import com.sun.source.tree.MemberReferenceTree;
import com.sun.source.tree.MethodInvocationTree;
import com.sun.source.tree.MethodTree;
import com.sun.source.tree.NewArrayTree;
import com.sun.source.tree.NewClassTree;
import com.sun.source.tree.SynchronizedTree;
import com.sun.source.tree.ThrowTree;
import com.sun.source.tree.Tree;
import com.sun.source.tree.TryTree;
import com.sun.source.tree.TypeCastTree;
import com.sun.source.tree.VariableTree;
import com.sun.source.tree.WhileLoopTree;
import com.sun.source.util.JavacTask;
import com.sun.source.util.TreePath;
import com.sun.source.util.TreePathScanner;
import com.sun.source.util.Trees;
import java.io.IOException;
import java.nio.file.Path;
import java.util.ArrayList;
import java.util.LinkedHashMap;
import java.util.LinkedHashSet;
import java.util.List;
import java.util.Map;
import java.util.Set;
import javax.lang.model.element.Element;
import javax.lang.model.element.ElementKind;
import javax.lang.model.element.ExecutableElement;
import javax.lang.model.element.Modifier;
import javax.lang.model.element.VariableElement;
import javax.tools.JavaCompiler;
import javax.tools.StandardJavaFileManager;
import javax.tools.ToolProvider;

/**
 * The rules 1 to 12 of LANGUAGE.md as far as they can be seen in the tree that the compiler makes of the
 * class: stricter than the rules, where the class gets along with less. Run it from the project's folder.
 */
public final class LanguageTest extends TreePathScanner<Void, Void> {
    private static final String OUTER = "MillstreamPayments";
    private static final int MOST_CLASSES = 12;
    private static final int MOST_FIELDS = 20;
    private static final int MOST_PARAMETERS = 7;
    private static final int MOST_LINES = 60;
    private static final int MOST_DEEP = 8;
    private static final Set<String> FACE = Set.of("fund", "line", "limit", "out", "holiday", "list", "send",
            "doubles", "join", "withdraw", "release", "refuse", "offset", "recall", "answer", "endDay", "today",
            "account", "accountAnew", "paid", "payments", "stateOf", "queueAt", "entries", "entryAt", "advice", "again");
    private static final Set<String> THROWN =
            Set.of("IllegalStateException", "IllegalArgumentException", "IndexOutOfBoundsException");
    private static final Set<String> LIBRARY = Set.of("Math.max", "Math.min", "ArrayList.add", "ArrayList.get",
            "ArrayList.size", "ArrayList.new", "IllegalStateException.new", "IllegalArgumentException.new",
            "IndexOutOfBoundsException.new");
    /** What a loop of the class may run up to, so that its end is seen from its own lines. */
    private static final Set<String> BOUNDS = Set.of("cells.length", "kept.size()", "all.size()", "register.count()",
            "BANKS", "CURRENCIES", "MOST_PAYMENTS", "Math.min(place, MOST_PAYMENTS) && queued != null");

    private final Trees trees;
    private final CompilationUnitTree unit;
    private final Map<String, Set<String>> calls = new LinkedHashMap<>();
    private int classes;

    private LanguageTest(Trees trees, CompilationUnitTree unit) {
        this.trees = trees;
        this.unit = unit;
    }

    public static void main(String[] args) throws IOException {
        JavaCompiler compiler = ToolProvider.getSystemJavaCompiler();
        try (StandardJavaFileManager files = compiler.getStandardFileManager(null, null, null)) {
            JavacTask task = (JavacTask) compiler.getTask(null, files, null, List.of("-proc:none"), null,
                    files.getJavaFileObjects(Path.of("src/main/java/MillstreamPayments.java")));
            List<CompilationUnitTree> units = new ArrayList<>();
            task.parse().forEach(units::add);
            task.analyze();
            LanguageTest test = new LanguageTest(Trees.instance(task), units.get(0));
            test.file();
            test.scan(units.get(0), null);
            test.end();
        }
    }

    private void file() throws IOException {
        due("1", "one class in the file, but for those inside", unit.getTypeDecls().size() == 1, unit);
        due("1", "no package", unit.getPackageName() == null, unit);
        for (ImportTree imported : unit.getImports()) {
            due("4", "nothing but lists is imported",
                    imported.getQualifiedIdentifier().toString().equals("java.util.ArrayList"), imported);
        }
        String text = unit.getSourceFile().getCharContent(false).toString();
        due("4", "signs below 128", text.chars().allMatch(sign -> sign < 128), unit);
    }

    private void end() {
        due("11", "classes", classes <= MOST_CLASSES, unit);
        due("11", "the calls are looked at", calls.size() > 100, unit);
        for (String method : calls.keySet()) {
            deep(method, new LinkedHashSet<>());
        }
        Checks.end();
    }

    private void due(String rule, String what, boolean isSo, Tree where) {
        long line = unit.getLineMap().getLineNumber(trees.getSourcePositions().getStartPosition(unit, where));
        Checks.due("rule " + rule + ", line " + line + ": " + what, isSo, true);
    }

    /** Rules 8 and 11: no method comes to itself again, and the calls from it go at most eight deep. */
    private int deep(String method, Set<String> open) {
        if (!open.add(method)) {
            due("8", "a call that comes to itself: " + open + " " + method, false, unit);
            return 0;
        }
        int most = 0;
        for (String called : calls.getOrDefault(method, Set.of())) {
            most = Math.max(most, deep(called, open));
        }
        open.remove(method);
        due("11", method + " goes " + (most + 1) + " deep", most + 1 <= MOST_DEEP, unit);
        return most + 1;
    }

    private Element element() {
        return trees.getElement(getCurrentPath());
    }

    private static String told(Element method) {
        return method.getEnclosingElement().getSimpleName() + "."
                + (method.getKind() == ElementKind.CONSTRUCTOR ? "new" : method.toString());
    }

    private String enclosing(Tree.Kind kind) {
        for (TreePath path = getCurrentPath(); path != null; path = path.getParentPath()) {
            if (path.getLeaf().getKind() == kind) {
                Element found = trees.getElement(path);
                return kind == Tree.Kind.METHOD ? told(found) : found.getSimpleName().toString();
            }
        }
        return "";
    }

    @Override
    public Void visitClass(ClassTree tree, Void nothing) {
        classes++;
        Element element = element();
        Set<Modifier> modifiers = element.getModifiers();
        boolean isOuter = element.getSimpleName().contentEquals(OUTER);
        due("1", "public and final", !isOuter || modifiers.containsAll(Set.of(Modifier.PUBLIC, Modifier.FINAL)), tree);
        due("2", "private and static", isOuter || modifiers.containsAll(Set.of(Modifier.PRIVATE, Modifier.STATIC)), tree);
        due("2", "no enum, record or interface", element.getKind() == ElementKind.CLASS, tree);
        due("2", "nothing extended or implemented",
                tree.getExtendsClause() == null && tree.getImplementsClause().isEmpty(), tree);
        int fields = 0;
        for (Tree member : tree.getMembers()) {
            Element of = trees.getElement(new TreePath(getCurrentPath(), member));
            due("5", "no block outside of methods", !(member instanceof BlockTree), member);
            boolean isField = member instanceof VariableTree;
            fields += isField && !of.getModifiers().contains(Modifier.STATIC) ? 1 : 0;
        }
        due("11", "fields", fields <= MOST_FIELDS, tree);
        return super.visitClass(tree, nothing);
    }

    @Override
    public Void visitMethod(MethodTree tree, Void nothing) {
        Element element = element();
        boolean isFace = element.getModifiers().contains(Modifier.PUBLIC);
        boolean isOuter = enclosing(Tree.Kind.CLASS).equals(OUTER);
        String name = tree.getName().toString();
        String answer = tree.getReturnType() == null ? "void" : ((ExecutableElement) element).getReturnType().toString();
        due("3", name + " answers a " + answer, answer.equals("void") || isTaken(answer), tree);
        due("1", name + " is private or of the face", !isOuter || isFace || element.getModifiers().contains(Modifier.PRIVATE), tree);
        due("1", name + " bears no name of the face", isFace == (isOuter && (FACE.contains(name) || name.equals("<init>")))
                && (isFace || !FACE.contains(name)), tree);
        due("6", name + " is none of every object", !Set.of("equals", "hashCode", "toString").contains(name), tree);
        due("11", name + " takes few", tree.getParameters().size() <= MOST_PARAMETERS || name.equals("send"), tree);
        long from = trees.getSourcePositions().getStartPosition(unit, tree);
        long to = trees.getSourcePositions().getEndPosition(unit, tree);
        due("11", name + " is short", unit.getLineMap().getLineNumber(to) - unit.getLineMap().getLineNumber(from) < MOST_LINES, tree);
        calls.computeIfAbsent(told(element), key -> new LinkedHashSet<>());
        return super.visitMethod(tree, nothing);
    }

    @Override
    public Void visitVariable(VariableTree tree, Void nothing) {
        VariableElement element = (VariableElement) element();
        String type = element.asType().toString();
        due("3", "the type " + type, isTaken(type), tree);
        if (element.getKind() == ElementKind.FIELD) {
            Set<Modifier> modifiers = element.getModifiers();
            due("5", "a static field is a constant", !modifiers.contains(Modifier.STATIC)
                    || element.getConstantValue() != null, tree);
            due("1", "a field of the face is a constant", !enclosing(Tree.Kind.CLASS).equals(OUTER)
                    || modifiers.contains(Modifier.PRIVATE) || modifiers.contains(Modifier.STATIC), tree);
        }
        return super.visitVariable(tree, nothing);
    }

    private static boolean isTaken(String type) {
        return type.matches("int|long|boolean|long\\[\\]|" + OUTER + "\\.\\w+|java\\.util\\.ArrayList<" + OUTER + "\\.\\w+>");
    }

    @Override
    public Void visitMethodInvocation(MethodInvocationTree tree, Void nothing) {
        if (!tree.getMethodSelect().toString().equals("super")) {
            called((ExecutableElement) element(), tree);
        }
        return super.visitMethodInvocation(tree, nothing);
    }

    @Override
    public Void visitNewClass(NewClassTree tree, Void nothing) {
        due("2", "no class without a name", tree.getClassBody() == null, tree);
        called((ExecutableElement) element(), tree);
        return super.visitNewClass(tree, nothing);
    }

    private void called(ExecutableElement method, Tree tree) {
        String owner = method.getEnclosingElement().toString();
        String plain = told(method).replaceFirst("\\(.*", "");
        due("4", "of the library: " + plain, owner.startsWith(OUTER) || LIBRARY.contains(plain), tree);
        String by = enclosing(Tree.Kind.METHOD);
        // What a field is at first is made by the constructor of its class.
        String from = by.isEmpty() ? enclosing(Tree.Kind.CLASS) + ".new" : by;
        calls.computeIfAbsent(from, none -> new LinkedHashSet<>()).add(told(method));
    }

    @Override
    public Void visitThrow(ThrowTree tree, Void nothing) {
        boolean isPlain = tree.getExpression() instanceof NewClassTree made
                && THROWN.contains(made.getIdentifier().toString())
                && made.getArguments().stream().allMatch(of -> of.getKind() == Tree.Kind.STRING_LITERAL);
        due("6", "a new exception with a written text", isPlain, tree);
        due("6", "only the face throws", enclosing(Tree.Kind.CLASS).equals(OUTER)
                && !enclosing(Tree.Kind.METHOD).endsWith(".new"), tree);
        return super.visitThrow(tree, nothing);
    }

    @Override
    public Void visitTry(TryTree tree, Void nothing) {
        due("6", "nothing is caught", false, tree);
        return super.visitTry(tree, nothing);
    }

    @Override
    public Void visitAssert(AssertTree tree, Void nothing) {
        due("6", "nothing is asserted", false, tree);
        return super.visitAssert(tree, nothing);
    }

    @Override
    public Void visitSynchronized(SynchronizedTree tree, Void nothing) {
        due("6", "nothing is locked", false, tree);
        return super.visitSynchronized(tree, nothing);
    }

    @Override
    public Void visitArrayAccess(ArrayAccessTree tree, Void nothing) {
        due("7", "only Row, which looks at each index, uses arrays", enclosing(Tree.Kind.CLASS).equals("Row"), tree);
        return super.visitArrayAccess(tree, nothing);
    }

    @Override
    public Void visitNewArray(NewArrayTree tree, Void nothing) {
        due("12", "arrays are made by the constructor of Row alone", enclosing(Tree.Kind.METHOD).equals("Row.new"), tree);
        return super.visitNewArray(tree, nothing);
    }

    @Override
    public Void visitBinary(BinaryTree tree, Void nothing) {
        if (tree.getKind() == Tree.Kind.DIVIDE || tree.getKind() == Tree.Kind.REMAINDER) {
            boolean isSafe = tree.getRightOperand() instanceof LiteralTree by && !by.getValue().equals(0);
            due("7", "a divisor is written out and not 0", isSafe, tree);
        }
        due("10", "no text is joined by +", tree.getKind() != Tree.Kind.PLUS
                || tree.getLeftOperand().getKind() != Tree.Kind.STRING_LITERAL
                && tree.getRightOperand().getKind() != Tree.Kind.STRING_LITERAL, tree);
        return super.visitBinary(tree, nothing);
    }

    @Override
    public Void visitTypeCast(TypeCastTree tree, Void nothing) {
        due("6", "only numbers are cast", tree.getType().toString().equals("int"), tree);
        return super.visitTypeCast(tree, nothing);
    }

    @Override
    public Void visitInstanceOf(InstanceOfTree tree, Void nothing) {
        due("6", "no class is asked for", false, tree);
        return super.visitInstanceOf(tree, nothing);
    }

    @Override
    public Void visitForLoop(ForLoopTree tree, Void nothing) {
        String ahead = tree.getCondition() == null ? "" : tree.getCondition().toString();
        due("9", "a bound that is known: " + ahead, BOUNDS.contains(ahead.replaceFirst("^\\w+ <=? ", "")), tree);
        due("9", "a counter that rises by one",
                tree.getUpdate().size() == 1 && tree.getUpdate().get(0).toString().matches("\\w+\\+\\+;?"), tree);
        return super.visitForLoop(tree, nothing);
    }

    @Override
    public Void visitWhileLoop(WhileLoopTree tree, Void nothing) {
        due("9", "no loop without a counter", false, tree);
        return super.visitWhileLoop(tree, nothing);
    }

    @Override
    public Void visitDoWhileLoop(DoWhileLoopTree tree, Void nothing) {
        due("9", "no loop without a counter", false, tree);
        return super.visitDoWhileLoop(tree, nothing);
    }

    @Override
    public Void visitLambdaExpression(LambdaExpressionTree tree, Void nothing) {
        due("2", "no lambda", false, tree);
        return super.visitLambdaExpression(tree, nothing);
    }

    @Override
    public Void visitMemberReference(MemberReferenceTree tree, Void nothing) {
        due("2", "no method reference", false, tree);
        return super.visitMemberReference(tree, nothing);
    }

    @Override
    public Void visitEnhancedForLoop(EnhancedForLoopTree tree, Void nothing) {
        due("12", "lists are gone through by index", false, tree);
        return super.visitEnhancedForLoop(tree, nothing);
    }
}
