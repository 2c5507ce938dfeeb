import com.sun.source.tree.AssertTree;
import com.sun.source.tree.BinaryTree;
import com.sun.source.tree.BlockTree;
import com.sun.source.tree.CatchTree;
import com.sun.source.tree.ClassTree;
import com.sun.source.tree.CompilationUnitTree;
import com.sun.source.tree.DoWhileLoopTree;
import com.sun.source.tree.ExpressionTree;
import com.sun.source.tree.ForLoopTree;
import com.sun.source.tree.IdentifierTree;
import com.sun.source.tree.ImportTree;
import com.sun.source.tree.LambdaExpressionTree;
import com.sun.source.tree.LiteralTree;
import com.sun.source.tree.MemberReferenceTree;
import com.sun.source.tree.MethodInvocationTree;
import com.sun.source.tree.MethodTree;
import com.sun.source.tree.NewArrayTree;
import com.sun.source.tree.NewClassTree;
import com.sun.source.tree.ParenthesizedTree;
import com.sun.source.tree.SynchronizedTree;
import com.sun.source.tree.ThrowTree;
import com.sun.source.tree.Tree;
import com.sun.source.tree.TryTree;
import com.sun.source.tree.TypeCastTree;
import com.sun.source.tree.VariableTree;
import com.sun.source.tree.WhileLoopTree;
import com.sun.source.util.JavacTask;
import com.sun.source.util.TreePath;
import com.sun.source.util.TreePathScanner;
import com.sun.source.util.Trees;
import java.io.IOException;
import java.io.UncheckedIOException;
import java.util.ArrayList;
import java.util.LinkedHashMap;
import java.util.LinkedHashSet;
import java.util.List;
import java.util.Map;
import java.util.Set;
import javax.lang.model.element.Element;
import javax.lang.model.element.ElementKind;
import javax.lang.model.element.Modifier;
import javax.tools.JavaCompiler;
import javax.tools.StandardJavaFileManager;
import javax.tools.ToolProvider;

/**
 * The rules of ../shared/LANGUAGE.md that can be seen in the program's text. Where a rule leaves
 * more than the program needs, the test may be narrower; its name says so.
 */
final class LanguageTest extends TreePathScanner<Void, Void> {
    private static final Set<String> THROWN = Set.of("IllegalStateException",
            "IllegalArgumentException", "IndexOutOfBoundsException", "ArithmeticException",
            "UnsupportedOperationException", "NoSuchElementException", "RuntimeException");
    private static final Set<String> LIBRARY = Set.of("java.lang.Math.max", "java.lang.Math.min");
    private static final Set<String> TYPES = Set.of("void", "int", "boolean", "char", "float",
            "double", "int[]", "int[][]", "boolean[]", "Alignment");
    private static final int MOST_PARAMETERS = 7;
    private static final int MOST_LINES = 60;
    private static final int MOST_DEPTH = 8;
    private static final int MOST_CLASSES = 12;
    private static final int MOST_FIELDS = 20;

    private static final String NO_LAMBDA = "rule 2 | no lambda, no method reference";
    private static final String FEW_TYPES = "rule 3 | Types | narrower: numbers, arrays of them and"
            + " the program's own class";
    private static final String LITTLE_LIBRARY = "rule 4 | only what stands here | narrower: one"
            + " import, Math.max and Math.min";
    private static final String PLAIN_SIGNS = "rule 4 | constants, whose signs are 1 to 127";
    private static final String NO_STATICS = "rule 5 | Static fields are final | and no static"
            + " initialiser block";
    private static final String PLAIN_THROWS = "rule 6 | throw new E() or throw new E(\"a written"
            + " text\") | and no throw in a constructor";
    private static final String NO_CATCH = "rule 6 | narrower: no try, catch, synchronized,"
            + " assert or cast of objects";
    private static final String OWN_NAMES = "rule 6 | No equals, hashCode or toString";
    private static final String RECURSION = "rule 8 | Recursion: a private static method";
    private static final String LOOPS = "rule 9 | Every loop has an end that can be seen | none"
            + " is without a condition";
    private static final String NO_JOINS = "rule 10 | joining texts by StringBuilder (not by +)";
    private static final String SMALL = "rule 11 | seven parameters, some sixty lines, some twelve"
            + " classes, some twenty fields";
    private static final String DEPTH = "rule 11 | calls that are no recursion go at most eight"
            + " deep";
    private static final String NOTHING_MADE = "rule 12 | What a run makes is counted | narrower:"
            + " nothing is made outside of constructors, but exceptions";

    private final Trees trees;
    private final Map<String, StringBuilder> faults = new LinkedHashMap<>();
    /** For each of the program's methods and constructors, those that it calls. */
    private final Map<Element, Set<Element>> called = new LinkedHashMap<>();
    private int classCount;

    private LanguageTest(Trees trees) {
        this.trees = trees;
        for (String rule : new String[] {NO_LAMBDA, FEW_TYPES, LITTLE_LIBRARY, PLAIN_SIGNS,
            NO_STATICS, PLAIN_THROWS, NO_CATCH, OWN_NAMES, RECURSION, LOOPS, NO_JOINS, SMALL,
            DEPTH, NOTHING_MADE}) {
            faults.put(rule, new StringBuilder());
        }
    }

    static void run(Results results) {
        JavaCompiler compiler = ToolProvider.getSystemJavaCompiler();
        try (StandardJavaFileManager files = compiler.getStandardFileManager(null, null, null)) {
            JavacTask task = (JavacTask) compiler.getTask(null, files, null,
                    List.of("-proc:none"), null, files.getJavaFileObjects(Texts.PROGRAM));
            Iterable<? extends CompilationUnitTree> units = task.parse();
            task.analyze();
            LanguageTest test = new LanguageTest(Trees.instance(task));
            test.scan(units, null);
            test.checkCalls();
            for (Map.Entry<String, StringBuilder> rule : test.faults.entrySet()) {
                results.record(rule.getKey(), rule.getValue().toString());
            }
        } catch (IOException unread) {
            throw new UncheckedIOException(unread);
        }
    }

    private void fault(String rule, Object what) {
        faults.get(rule).append("  ").append(what).append('\n');
    }

    private void allow(boolean fits, String rule, Object what) {
        if (!fits) {
            fault(rule, what);
        }
    }

    private Element element() {
        return trees.getElement(getCurrentPath());
    }

    /** The method or constructor that the current place is in; null outside of all. */
    private Element enclosingMethod() {
        for (TreePath path = getCurrentPath(); path != null; path = path.getParentPath()) {
            if (path.getLeaf() instanceof MethodTree) {
                return trees.getElement(path);
            }
        }
        return null;
    }

    private boolean isInConstructor() {
        Element method = enclosingMethod();
        return method != null && method.getKind() == ElementKind.CONSTRUCTOR;
    }

    private boolean isThrown() {
        return getCurrentPath().getParentPath().getLeaf() instanceof ThrowTree;
    }

    @Override
    public Void visitImport(ImportTree tree, Void none) {
        String name = tree.getQualifiedIdentifier().toString();
        allow(name.equals("java.util.NoSuchElementException"), LITTLE_LIBRARY, name);
        return super.visitImport(tree, none);
    }

    @Override
    public Void visitClass(ClassTree tree, Void none) {
        classCount++;
        allow(classCount <= MOST_CLASSES, SMALL, classCount + " classes");
        long fields = tree.getMembers().stream().filter(each -> each instanceof VariableTree
                && !((VariableTree) each).getModifiers().getFlags().contains(Modifier.STATIC))
                .count();
        allow(fields <= MOST_FIELDS, SMALL, fields + " fields of " + tree.getSimpleName());
        return super.visitClass(tree, none);
    }

    @Override
    public Void visitVariable(VariableTree tree, Void none) {
        Set<Modifier> flags = tree.getModifiers().getFlags();
        allow(!flags.contains(Modifier.STATIC) || flags.contains(Modifier.FINAL), NO_STATICS, tree);
        allow(TYPES.contains(String.valueOf(tree.getType())), FEW_TYPES, tree);
        return super.visitVariable(tree, none);
    }

    @Override
    public Void visitBlock(BlockTree tree, Void none) {
        allow(!tree.isStatic(), NO_STATICS, tree);
        return super.visitBlock(tree, none);
    }

    @Override
    public Void visitMethod(MethodTree tree, Void none) {
        String name = tree.getName().toString();
        called.computeIfAbsent(element(), each -> new LinkedHashSet<>());
        long lines = tree.toString().lines().count();
        allow(tree.getParameters().size() <= MOST_PARAMETERS, SMALL, name);
        allow(lines <= MOST_LINES, SMALL, name + " has " + lines + " lines");
        Tree answer = tree.getReturnType();
        allow(answer == null || TYPES.contains(answer.toString()), FEW_TYPES, name);
        allow(!List.of("equals", "hashCode", "toString").contains(name), OWN_NAMES, name);
        allow(!tree.getModifiers().getFlags().contains(Modifier.SYNCHRONIZED), NO_CATCH, name);
        return super.visitMethod(tree, none);
    }

    @Override
    public Void visitMethodInvocation(MethodInvocationTree tree, Void none) {
        Element method = element();
        String owner = String.valueOf(method.getEnclosingElement());
        if (owner.startsWith("TalkRebuilder") && enclosingMethod() != null) {
            called.computeIfAbsent(enclosingMethod(), each -> new LinkedHashSet<>()).add(method);
        } else if (!tree.getMethodSelect().toString().equals("super")) {
            String name = owner + "." + method.getSimpleName();
            allow(LIBRARY.contains(name), LITTLE_LIBRARY, name);
        }
        return super.visitMethodInvocation(tree, none);
    }

    @Override
    public Void visitNewClass(NewClassTree tree, Void none) {
        allow(isThrown() || isInConstructor(), NOTHING_MADE, tree);
        return super.visitNewClass(tree, none);
    }

    @Override
    public Void visitNewArray(NewArrayTree tree, Void none) {
        allow(isInConstructor(), NOTHING_MADE, tree);
        return super.visitNewArray(tree, none);
    }

    @Override
    public Void visitThrow(ThrowTree tree, Void none) {
        allow(!isInConstructor(), PLAIN_THROWS, tree);
        boolean fits = false;
        if (tree.getExpression() instanceof NewClassTree) {
            NewClassTree made = (NewClassTree) tree.getExpression();
            List<? extends ExpressionTree> texts = made.getArguments();
            fits = made.getIdentifier() instanceof IdentifierTree
                    && THROWN.contains(made.getIdentifier().toString())
                    && (texts.isEmpty() || texts.size() == 1
                    && texts.get(0).getKind() == Tree.Kind.STRING_LITERAL);
        }
        allow(fits, PLAIN_THROWS, tree);
        return super.visitThrow(tree, none);
    }

    @Override
    public Void visitTry(TryTree tree, Void none) {
        fault(NO_CATCH, tree);
        return super.visitTry(tree, none);
    }

    @Override
    public Void visitCatch(CatchTree tree, Void none) {
        fault(NO_CATCH, tree);
        return super.visitCatch(tree, none);
    }

    @Override
    public Void visitSynchronized(SynchronizedTree tree, Void none) {
        fault(NO_CATCH, tree);
        return super.visitSynchronized(tree, none);
    }

    @Override
    public Void visitAssert(AssertTree tree, Void none) {
        fault(NO_CATCH, tree);
        return super.visitAssert(tree, none);
    }

    @Override
    public Void visitTypeCast(TypeCastTree tree, Void none) {
        allow(tree.getType().getKind() == Tree.Kind.PRIMITIVE_TYPE, NO_CATCH, tree);
        return super.visitTypeCast(tree, none);
    }

    @Override
    public Void visitLambdaExpression(LambdaExpressionTree tree, Void none) {
        fault(NO_LAMBDA, tree);
        return super.visitLambdaExpression(tree, none);
    }

    @Override
    public Void visitMemberReference(MemberReferenceTree tree, Void none) {
        fault(NO_LAMBDA, tree);
        return super.visitMemberReference(tree, none);
    }

    @Override
    public Void visitLiteral(LiteralTree tree, Void none) {
        if (tree.getValue() instanceof String) {
            boolean fits = ((String) tree.getValue()).chars().allMatch(c -> c >= 1 && c <= 127);
            allow(fits, PLAIN_SIGNS, tree);
        }
        return super.visitLiteral(tree, none);
    }

    @Override
    public Void visitBinary(BinaryTree tree, Void none) {
        String type = String.valueOf(trees.getTypeMirror(getCurrentPath()));
        allow(!type.equals("java.lang.String"), NO_JOINS, tree);
        return super.visitBinary(tree, none);
    }

    @Override
    public Void visitWhileLoop(WhileLoopTree tree, Void none) {
        checkCondition(tree.getCondition(), tree);
        return super.visitWhileLoop(tree, none);
    }

    @Override
    public Void visitDoWhileLoop(DoWhileLoopTree tree, Void none) {
        checkCondition(tree.getCondition(), tree);
        return super.visitDoWhileLoop(tree, none);
    }

    @Override
    public Void visitForLoop(ForLoopTree tree, Void none) {
        checkCondition(tree.getCondition(), tree);
        return super.visitForLoop(tree, none);
    }

    private void checkCondition(ExpressionTree condition, Tree loop) {
        ExpressionTree inner = condition;
        while (inner instanceof ParenthesizedTree) {
            inner = ((ParenthesizedTree) inner).getExpression();
        }
        allow(inner != null && inner.getKind() != Tree.Kind.BOOLEAN_LITERAL, LOOPS, loop);
    }

    private void checkCalls() {
        for (Element method : called.keySet()) {
            checkChains(method, new ArrayList<>());
        }
    }

    private void checkChains(Element method, List<Element> open) {
        int begin = open.indexOf(method);
        if (begin >= 0) {
            for (Element again : open.subList(begin, open.size())) {
                allow(again.getModifiers().containsAll(Set.of(Modifier.PRIVATE, Modifier.STATIC)),
                        RECURSION, again);
            }
            return;
        }
        open.add(method);
        allow(open.size() <= MOST_DEPTH, DEPTH, open);
        for (Element next : called.getOrDefault(method, Set.of())) {
            checkChains(next, open);
        }
        open.remove(open.size() - 1);
    }
}
