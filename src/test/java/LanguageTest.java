import com.sun.source.tree.AssertTree;
import com.sun.source.tree.BinaryTree;
import com.sun.source.tree.CatchTree;
import com.sun.source.tree.ClassTree;
import com.sun.source.tree.CompilationUnitTree;
import com.sun.source.tree.ExpressionTree;
import com.sun.source.tree.ImportTree;
import com.sun.source.tree.LambdaExpressionTree;
import com.sun.source.tree.LiteralTree;
import com.sun.source.tree.MemberReferenceTree;
import com.sun.source.tree.MethodInvocationTree;
import com.sun.source.tree.MethodTree;
import com.sun.source.tree.NewArrayTree;
import com.sun.source.tree.NewClassTree;
import com.sun.source.tree.SynchronizedTree;
import com.sun.source.tree.ThrowTree;
import com.sun.source.tree.Tree;
import com.sun.source.tree.TryTree;
import com.sun.source.tree.VariableTree;
import com.sun.source.util.JavacTask;
import com.sun.source.util.TreePath;
import com.sun.source.util.TreePathScanner;
import com.sun.source.util.Trees;
import java.io.IOException;
import java.nio.file.Path;
import java.util.HashMap;
import java.util.HashSet;
import java.util.List;
import java.util.Map;
import java.util.Set;
import javax.lang.model.element.Element;
import javax.lang.model.element.Modifier;
import javax.lang.model.type.TypeKind;
import javax.lang.model.type.TypeMirror;
import javax.tools.JavaCompiler;
import javax.tools.StandardJavaFileManager;
import javax.tools.ToolProvider;

/** The class keeps to those rules of ../shared/LANGUAGE.md that can be seen in its text. */
public final class LanguageTest extends TreePathScanner<Void, Void> {
    private static final int MOST_LINES = 60;
    private static final int MOST_PARAMETERS = 7;
    private static final int MOST_CLASSES = 12;
    private static final int MOST_FIELDS = 20;
    private static final int MOST_DEPTH = 8;
    // What the class uses now: far less than rule 4 leaves; a name that the rule has may be added.
    private static final Set<String> LIBRARY = Set.of("java.lang.Math.min");
    private static final Set<String> EXCEPTIONS = Set.of("IllegalStateException", "IllegalArgumentException",
            "IndexOutOfBoundsException", "ArithmeticException", "UnsupportedOperationException",
            "NoSuchElementException", "RuntimeException");
    // Rule 6 leaves more, but what the machine throws is not to be caught, by a class above it neither.
    private static final Set<String> CAUGHT = Set.of("IllegalStateException", "IllegalArgumentException",
            "UnsupportedOperationException", "NoSuchElementException");

    private final CompilationUnitTree unit;
    private final Trees trees;
    private final Map<Element, Set<Element>> calls = new HashMap<>();
    private final Set<String> publicNames = new HashSet<>();
    private final Set<String> privateNames = new HashSet<>();
    private int classes = 0;
    private int methods = 0;
    private int wrong = 0;

    private LanguageTest(CompilationUnitTree unit, Trees trees) {
        this.unit = unit;
        this.trees = trees;
    }

    public static void main(String[] args) throws IOException {
        Path file = Path.of(args.length > 0 ? args[0] : "src/main/java/NameTurner.java");
        JavaCompiler compiler = ToolProvider.getSystemJavaCompiler();
        StandardJavaFileManager files = compiler.getStandardFileManager(null, null, null);
        JavacTask task = (JavacTask) compiler.getTask(null, files, null, List.of("--release", "17", "-proc:none"), null,
                files.getJavaFileObjects(file));
        CompilationUnitTree unit = task.parse().iterator().next();
        task.analyze();
        LanguageTest test = new LanguageTest(unit, Trees.instance(task));
        test.look();
        System.out.println("LanguageTest: " + test.classes + " classes, " + test.methods + " methods, " + test.wrong
                + " not as due");
        if (test.wrong != 0 || test.methods == 0) {
            System.exit(1);
        }
    }

    private void look() {
        ask(1, unit.getTypeDecls().size() == 1 && unit.getPackageName() == null, "one class without a package", unit);
        scan(unit, null);
        ask(11, classes <= MOST_CLASSES, classes + " classes", unit);
        for (String name : privateNames) {
            ask(1, !publicNames.contains(name), "a private method bears the public name " + name, unit);
        }
        for (Element method : calls.keySet()) {
            // A method that calls itself, over others too, has no depth, so this finds both.
            ask(11, depth(method, 1) <= MOST_DEPTH, "calls behind " + method + " go deeper than " + MOST_DEPTH, unit);
        }
    }

    private int depth(Element method, int open) {
        int deepest = open;
        if (open <= MOST_DEPTH) {
            for (Element called : calls.getOrDefault(method, Set.of())) {
                deepest = Math.max(deepest, depth(called, open + 1));
            }
        }
        return deepest;
    }

    private void ask(int rule, boolean holds, String what, Tree where) {
        if (!holds) {
            wrong++;
            System.out.println("rule " + rule + ", line " + line(where) + ": " + what);
        }
    }

    private long line(Tree tree) {
        return unit.getLineMap().getLineNumber(Math.max(0, trees.getSourcePositions().getStartPosition(unit, tree)));
    }

    private long lines(Tree tree) {
        long end = trees.getSourcePositions().getEndPosition(unit, tree);
        return end < 0 ? 0 : unit.getLineMap().getLineNumber(end) - line(tree) + 1;
    }

    private Element elementHere() {
        return trees.getElement(getCurrentPath());
    }

    private MethodTree methodHere() {
        for (TreePath path = getCurrentPath(); path != null; path = path.getParentPath()) {
            if (path.getLeaf() instanceof MethodTree method) {
                return method;
            }
        }
        return null;
    }

    private static boolean isConstructor(MethodTree method) {
        return method.getName().contentEquals("<init>");
    }

    @Override
    public Void visitImport(ImportTree tree, Void nothing) {
        String name = tree.getQualifiedIdentifier().toString();
        ask(4, name.equals("java.util.NoSuchElementException"), "import " + name, tree);
        return super.visitImport(tree, nothing);
    }

    @Override
    public Void visitClass(ClassTree tree, Void nothing) {
        classes++;
        Set<Modifier> is = tree.getModifiers().getFlags();
        boolean inside = getCurrentPath().getParentPath().getLeaf() instanceof ClassTree;
        if (inside) {
            ask(1, is.contains(Modifier.STATIC) && !is.contains(Modifier.PUBLIC) && !is.contains(Modifier.PROTECTED),
                    "a class inside is static, and private or package-visible", tree);
        } else {
            ask(1, is.contains(Modifier.PUBLIC) && is.contains(Modifier.FINAL), "public and final", tree);
        }
        int fields = 0;
        for (Tree member : tree.getMembers()) {
            if (member instanceof VariableTree field) {
                boolean isStatic = field.getModifiers().getFlags().contains(Modifier.STATIC);
                fields += isStatic ? 0 : 1;
                ask(5, !isStatic || isConstant(field), "a static field is a constant number", field);
            }
            ask(5, member.getKind() != Tree.Kind.BLOCK, "no initialiser block", member);
        }
        ask(11, fields <= MOST_FIELDS, fields + " fields", tree);
        return super.visitClass(tree, nothing);
    }

    private static boolean isConstant(VariableTree field) {
        return field.getModifiers().getFlags().contains(Modifier.FINAL) && field.getType().toString().equals("int")
                && field.getInitializer() != null;
    }

    @Override
    public Void visitMethod(MethodTree tree, Void nothing) {
        // A constructor that isn't written has no place in the text.
        if (trees.getSourcePositions().getEndPosition(unit, tree) >= 0) {
            methods++;
            calls.putIfAbsent(elementHere(), new HashSet<>());
            if (tree.getModifiers().getFlags().contains(Modifier.PUBLIC)) {
                publicNames.add(tree.getName().toString());
            } else {
                privateNames.add(tree.getName().toString());
            }
            ask(11, tree.getParameters().size() <= MOST_PARAMETERS, "parameters of " + tree.getName(), tree);
            ask(11, lines(tree) <= MOST_LINES, lines(tree) + " lines of " + tree.getName(), tree);
        }
        privateNames.remove("<init>");
        return super.visitMethod(tree, nothing);
    }

    @Override
    public Void visitVariable(VariableTree tree, Void nothing) {
        TypeMirror type = trees.getTypeMirror(getCurrentPath());
        boolean real = type != null && (type.getKind() == TypeKind.DOUBLE || type.getKind() == TypeKind.FLOAT);
        ask(3, !real, "no number but whole ones is needed here", tree);
        return super.visitVariable(tree, nothing);
    }

    @Override
    public Void visitMethodInvocation(MethodInvocationTree tree, Void nothing) {
        Element called = elementHere();
        String of = called == null ? "" : called.getEnclosingElement().toString();
        MethodTree from = methodHere();
        if (of.equals("NameTurner") || of.startsWith("NameTurner.")) {
            if (from != null) {
                Element caller = trees.getElement(trees.getPath(unit, from));
                calls.computeIfAbsent(caller, e -> new HashSet<>()).add(called);
            }
        } else if (!tree.getMethodSelect().toString().equals("super")) {
            String name = called == null ? tree.toString() : of + "." + called.getSimpleName();
            ask(4, LIBRARY.contains(name), "library: " + name, tree);
        }
        return super.visitMethodInvocation(tree, nothing);
    }

    /** Rows and objects are made with the turner itself, so that no call adds to the room of a run. */
    private void askWhereMade(Tree tree) {
        MethodTree method = methodHere();
        boolean thrown = getCurrentPath().getParentPath().getLeaf() instanceof ThrowTree;
        ask(12, method == null || isConstructor(method) || thrown, "something is made by a call", tree);
    }

    @Override
    public Void visitNewClass(NewClassTree tree, Void nothing) {
        askWhereMade(tree);
        ask(2, tree.getClassBody() == null, "no class without a name", tree);
        return super.visitNewClass(tree, nothing);
    }

    @Override
    public Void visitNewArray(NewArrayTree tree, Void nothing) {
        askWhereMade(tree);
        ask(3, tree.getDimensions().size() == 1, "arrays of one dimension", tree);
        return super.visitNewArray(tree, nothing);
    }

    @Override
    public Void visitThrow(ThrowTree tree, Void nothing) {
        ask(6, isThrowable(tree.getExpression()), "throw new E(\"a written text\"), E of the list", tree);
        MethodTree method = methodHere();
        ask(6, method != null && !isConstructor(method), "no throw in a constructor", tree);
        return super.visitThrow(tree, nothing);
    }

    private static boolean isThrowable(ExpressionTree thrown) {
        if (!(thrown instanceof NewClassTree made) || !EXCEPTIONS.contains(made.getIdentifier().toString())) {
            return false;
        }
        return made.getArguments().isEmpty()
                || made.getArguments().size() == 1 && made.getArguments().get(0).getKind() == Tree.Kind.STRING_LITERAL;
    }

    @Override
    public Void visitBinary(BinaryTree tree, Void nothing) {
        TypeMirror type = trees.getTypeMirror(getCurrentPath());
        ask(10, type != null && type.getKind().isPrimitive(), "texts are not joined by +", tree);
        return super.visitBinary(tree, nothing);
    }

    @Override
    public Void visitLiteral(LiteralTree tree, Void nothing) {
        String text = tree.getValue() instanceof String || tree.getValue() instanceof Character ? "" + tree.getValue() : "";
        ask(4, text.chars().allMatch(c -> c >= 1 && c <= 127), "signs are 1 to 127", tree);
        return super.visitLiteral(tree, nothing);
    }

    @Override
    public Void visitTry(TryTree tree, Void nothing) {
        ask(6, tree.getFinallyBlock() == null && tree.getResources().isEmpty(), "no finally, no resources", tree);
        return super.visitTry(tree, nothing);
    }

    @Override
    public Void visitCatch(CatchTree tree, Void nothing) {
        String caught = tree.getParameter().getType().toString();
        ask(6, CAUGHT.contains(caught), "catch of " + caught, tree);
        return super.visitCatch(tree, nothing);
    }

    @Override
    public Void visitLambdaExpression(LambdaExpressionTree tree, Void nothing) {
        ask(2, false, "no lambda", tree);
        return super.visitLambdaExpression(tree, nothing);
    }

    @Override
    public Void visitMemberReference(MemberReferenceTree tree, Void nothing) {
        ask(2, false, "no method reference", tree);
        return super.visitMemberReference(tree, nothing);
    }

    @Override
    public Void visitSynchronized(SynchronizedTree tree, Void nothing) {
        ask(6, false, "no synchronized", tree);
        return super.visitSynchronized(tree, nothing);
    }

    @Override
    public Void visitAssert(AssertTree tree, Void nothing) {
        ask(6, false, "no assert", tree);
        return super.visitAssert(tree, nothing);
    }
}
