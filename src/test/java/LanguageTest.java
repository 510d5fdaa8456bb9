import com.sun.source.tree.AssertTree;
import com.sun.source.tree.BlockTree;
import com.sun.source.tree.ClassTree;
import com.sun.source.tree.CompilationUnitTree;
import com.sun.source.tree.ExpressionTree;
import com.sun.source.tree.ImportTree;
import com.sun.source.tree.LambdaExpressionTree;
import com.sun.source.tree.MemberReferenceTree;
import com.sun.source.tree.MethodInvocationTree;
import com.sun.source.tree.MethodTree;
import com.sun.source.tree.NewArrayTree;
import com.sun.source.tree.NewClassTree;
import com.sun.source.tree.SynchronizedTree;
import com.sun.source.tree.ThrowTree;
import com.sun.source.tree.Tree;
import com.sun.source.tree.TryTree;
import com.sun.source.tree.VariableTree;
import com.sun.source.util.JavacTask;
import com.sun.source.util.TreePath;
import com.sun.source.util.TreePathScanner;
import com.sun.source.util.Trees;
import java.io.IOException;
import java.nio.file.Files;
import java.nio.file.Path;
import java.util.ArrayDeque;
import java.util.Collections;
import java.util.Deque;
import java.util.List;
import java.util.Map;
import java.util.Set;
import java.util.TreeMap;
import java.util.TreeSet;
import javax.lang.model.element.Element;
import javax.lang.model.element.Modifier;
import javax.tools.JavaCompiler;
import javax.tools.StandardJavaFileManager;
import javax.tools.ToolProvider;

/**
 * The rules of ../shared/LANGUAGE.md that can be seen in the program's text, as the compiler reads
 * it. Rule 1 is FaceTest's; that a loop ends and an index is looked at must be read by eye.
 */
public final class LanguageTest extends TreePathScanner<Void, Void> {
    private static final Path PROGRAM = Path.of("src/main/java/PointedWords.java");
    private static final int MOST_LINES = 60;
    private static final int MOST_PARAMETERS = 7;
    private static final int MOST_CLASSES = 12;
    private static final int MOST_FIELDS = 20;
    private static final int MOST_CALLS = 8;

    private static final Set<String> IMPORTS = Set.of("java.util.NoSuchElementException");
    /** Fewer than rule 4 lists: put in what the program comes to need of the others. */
    private static final Set<String> LIBRARY = Set.of("Math.max", "System.arraycopy");
    private static final Set<String> EXCEPTIONS = Set.of("IllegalStateException",
            "IllegalArgumentException", "IndexOutOfBoundsException", "ArithmeticException",
            "UnsupportedOperationException", "NoSuchElementException", "RuntimeException");
    private static final Set<String> CONSTANTS = Set.of("int", "long", "boolean", "char", "String",
            "int[]", "long[]", "char[]", "byte[]");

    private final Trees trees;
    private final CompilationUnitTree unit;
    private final Map<String, Set<String>> calls = new TreeMap<>();
    private final Set<String> faults = new TreeSet<>();
    private int classes = 0;

    private LanguageTest(Trees trees, CompilationUnitTree unit) {
        this.trees = trees;
        this.unit = unit;
    }

    public static void main(String[] args) throws IOException {
        Path program = args.length > 0 ? Path.of(args[0]) : PROGRAM;
        boolean plainSigns = Files.readString(program).chars().allMatch(c -> c > 0 && c < 128);
        Checks.due("signs of 1 to 127 alone", true, plainSigns);
        JavaCompiler compiler = ToolProvider.getSystemJavaCompiler();
        try (StandardJavaFileManager files = compiler.getStandardFileManager(null, null, null)) {
            JavacTask task = (JavacTask) compiler.getTask(null, files, null,
                    List.of("--release", "17", "-proc:none"), null,
                    files.getJavaFileObjects(program));
            CompilationUnitTree unit = task.parse().iterator().next();
            task.analyze();
            LanguageTest test = new LanguageTest(Trees.instance(task), unit);
            test.scan(unit, null);
            test.conclude();
        }
        Checks.end();
    }

    private void conclude() {
        Checks.due("what the language's rules leave out", "[]", faults.toString());
        Checks.due("rule 1: no package", true, unit.getPackageName() == null);
        Checks.due("rule 1: one class at the top", 1, () -> unit.getTypeDecls().size());
        Checks.due("rule 11: at most 12 classes, and some", true,
                classes > 0 && classes <= MOST_CLASSES);
        List<String> longest = List.of();
        for (String method : calls.keySet()) {
            List<String> chain = longestChain(method, new ArrayDeque<>());
            longest = chain.size() > longest.size() ? chain : longest;
        }
        Checks.due("rule 11: calls eight deep at most: " + longest, true,
                longest.size() > 1 && longest.size() <= MOST_CALLS);
    }

    /** No method comes twice in a chain: recursion counts once. */
    private List<String> longestChain(String method, Deque<String> above) {
        above.addLast(method);
        List<String> longest = List.copyOf(above);
        for (String next : calls.getOrDefault(method, Collections.emptySet())) {
            if (!above.contains(next)) {
                List<String> chain = longestChain(next, above);
                longest = chain.size() > longest.size() ? chain : longest;
            }
        }
        above.removeLast();
        return longest;
    }

    private void require(int rule, boolean kept, String what, Tree where) {
        if (!kept) {
            long position = trees.getSourcePositions().getStartPosition(unit, where);
            faults.add("rule " + rule + ", line " + unit.getLineMap().getLineNumber(position)
                    + ": " + what);
        }
    }

    private MethodTree method() {
        for (TreePath path = getCurrentPath(); path != null; path = path.getParentPath()) {
            if (path.getLeaf() instanceof MethodTree method) {
                return method;
            }
        }
        return null;
    }

    private static boolean isConstructor(MethodTree method) {
        return method.getName().contentEquals("<init>");
    }

    private static String nameOf(Element method) {
        return method.getEnclosingElement().getSimpleName() + "." + method.getSimpleName();
    }

    private boolean isOwn(Element element) {
        return element != null
                && trees.getPath(element) != null
                && trees.getPath(element).getCompilationUnit() == unit;
    }

    @Override
    public Void visitImport(ImportTree node, Void nothing) {
        String name = node.getQualifiedIdentifier().toString();
        require(4, IMPORTS.contains(name), "import of " + name, node);
        return null;
    }

    @Override
    public Void visitClass(ClassTree node, Void nothing) {
        classes++;
        boolean isInside = getCurrentPath().getParentPath().getLeaf() instanceof ClassTree;
        Set<Modifier> modifiers = node.getModifiers().getFlags();
        require(1, !isInside || modifiers.contains(Modifier.STATIC), "a class not static", node);
        require(1, !modifiers.contains(Modifier.PROTECTED)
                && !(isInside && modifiers.contains(Modifier.PUBLIC)), "a class to be seen", node);
        int fields = 0;
        for (Tree member : node.getMembers()) {
            if (member instanceof VariableTree field) {
                fields += field.getModifiers().getFlags().contains(Modifier.STATIC) ? 0 : 1;
            }
            require(5, !(member instanceof BlockTree), "an initialiser block", member);
        }
        require(11, fields <= MOST_FIELDS, fields + " fields", node);
        return super.visitClass(node, nothing);
    }

    @Override
    public Void visitVariable(VariableTree node, Void nothing) {
        Set<Modifier> modifiers = node.getModifiers().getFlags();
        if (modifiers.contains(Modifier.STATIC)) {
            require(5, modifiers.contains(Modifier.FINAL), "static, not final", node);
            require(5, CONSTANTS.contains(node.getType().toString()), "a constant's type", node);
        }
        return super.visitVariable(node, nothing);
    }

    @Override
    public Void visitMethod(MethodTree node, Void nothing) {
        long first = trees.getSourcePositions().getStartPosition(unit, node);
        long last = trees.getSourcePositions().getEndPosition(unit, node);
        if (last >= 0) {
            long lines = unit.getLineMap().getLineNumber(last)
                    - unit.getLineMap().getLineNumber(first) + 1;
            require(11, lines <= MOST_LINES, lines + " lines", node);
        }
        int parameters = node.getParameters().size();
        require(11, parameters <= MOST_PARAMETERS, parameters + " parameters", node);
        return super.visitMethod(node, nothing);
    }

    @Override
    public Void visitMethodInvocation(MethodInvocationTree node, Void nothing) {
        Element called = trees.getElement(getCurrentPath());
        if (isOwn(called)) {
            Element caller = trees.getElement(trees.getPath(unit, method()));
            calls.computeIfAbsent(nameOf(caller), k -> new TreeSet<>()).add(nameOf(called));
        } else if (!node.getMethodSelect().toString().equals("super")) {
            String name = called == null ? node.toString() : nameOf(called);
            require(4, LIBRARY.contains(name), "call of " + name, node);
        }
        return super.visitMethodInvocation(node, nothing);
    }

    /** What is thrown may be made anywhere; all else is made with its object, once. */
    @Override
    public Void visitNewClass(NewClassTree node, Void nothing) {
        if (!(getCurrentPath().getParentPath().getLeaf() instanceof ThrowTree)) {
            boolean early = method() == null || isConstructor(method());
            require(12, early, "made by a method: " + node, node);
            Element made = trees.getElement(getCurrentPath());
            require(4, isOwn(made) || isOwn(made.getEnclosingElement()), "made: " + node, node);
        }
        return super.visitNewClass(node, nothing);
    }

    @Override
    public Void visitNewArray(NewArrayTree node, Void nothing) {
        require(12, method() == null || isConstructor(method()), "made by a method: " + node, node);
        return super.visitNewArray(node, nothing);
    }

    @Override
    public Void visitThrow(ThrowTree node, Void nothing) {
        boolean plain = false;
        if (node.getExpression() instanceof NewClassTree made) {
            plain = EXCEPTIONS.contains(made.getIdentifier().toString())
                    && made.getClassBody() == null
                    && made.getArguments().size() <= 1;
            for (ExpressionTree argument : made.getArguments()) {
                plain = plain && argument.getKind() == Tree.Kind.STRING_LITERAL;
            }
        }
        require(6, plain, node.toString(), node);
        require(6, !isConstructor(method()), "a throw in a constructor", node);
        return super.visitThrow(node, nothing);
    }

    @Override
    public Void visitTry(TryTree node, Void nothing) {
        require(6, node.getFinallyBlock() == null && node.getResources().isEmpty(),
                "finally, or a resource", node);
        return super.visitTry(node, nothing);
    }

    @Override
    public Void visitLambdaExpression(LambdaExpressionTree node, Void nothing) {
        require(2, false, "a lambda", node);
        return null;
    }

    @Override
    public Void visitMemberReference(MemberReferenceTree node, Void nothing) {
        require(2, false, "a method reference", node);
        return null;
    }

    @Override
    public Void visitSynchronized(SynchronizedTree node, Void nothing) {
        require(6, false, "synchronized", node);
        return null;
    }

    @Override
    public Void visitAssert(AssertTree node, Void nothing) {
        require(6, false, "assert", node);
        return null;
    }
}
