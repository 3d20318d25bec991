import com.sun.source.tree.AssertTree;
import com.sun.source.tree.BinaryTree;
import com.sun.source.tree.CatchTree;
import com.sun.source.tree.ClassTree;
import com.sun.source.tree.CompilationUnitTree;
import com.sun.source.tree.CompoundAssignmentTree;
import com.sun.source.tree.ExpressionTree;
import com.sun.source.tree.ImportTree;
import com.sun.source.tree.LambdaExpressionTree;
import com.sun.source.tree.LiteralTree;
import com.sun.source.tree.MemberReferenceTree;
import com.sun.source.tree.MethodInvocationTree;
import com.sun.source.tree.MethodTree;
import com.sun.source.tree.NewClassTree;
import com.sun.source.tree.SynchronizedTree;
import com.sun.source.tree.ThrowTree;
import com.sun.source.tree.Tree;
import com.sun.source.tree.TryTree;
import com.sun.source.tree.VariableTree;
import com.sun.source.util.JavacTask;
import com.sun.source.util.TreePathScanner;
import com.sun.source.util.Trees;
import java.nio.charset.StandardCharsets;
import java.nio.file.Path;
import java.util.List;
import java.util.Locale;
import java.util.Map;
import java.util.Set;
import java.util.TreeMap;
import java.util.TreeSet;
import javax.lang.model.element.Element;
import javax.lang.model.element.ElementKind;
import javax.lang.model.element.ExecutableElement;
import javax.lang.model.element.Modifier;
import javax.lang.model.element.TypeElement;
import javax.lang.model.type.TypeKind;
import javax.lang.model.type.TypeMirror;
import javax.tools.JavaCompiler;
import javax.tools.StandardJavaFileManager;
import javax.tools.ToolProvider;

/** What of ../shared/LANGUAGE.md the compiler's own trees show: the rules are named by their numbers. */
public final class LanguageTest extends TreePathScanner<Void, Void> {
    private static final Map<String, Set<String>> LIBRARY = Map.of(
            "java.lang.String", Set.of("length", "charAt", "isEmpty", "equals", "indexOf", "substring", "toCharArray"),
            "java.lang.StringBuilder", Set.of("append", "charAt", "setCharAt", "setLength", "deleteCharAt", "reverse",
                    "length", "toString"),
            "java.lang.Integer", Set.of("compare", "max", "min", "bitCount"),
            "java.lang.Long", Set.of("compare", "max", "min", "bitCount"),
            "java.lang.Math", Set.of("abs", "min", "max", "floorDiv", "floorMod"),
            "java.lang.System", Set.of("arraycopy"),
            "java.util.Arrays", Set.of("copyOf", "copyOfRange", "fill"));
    private static final Set<String> EXCEPTIONS = Set.of("IllegalStateException", "IllegalArgumentException",
            "IndexOutOfBoundsException", "ArithmeticException", "UnsupportedOperationException",
            "NoSuchElementException", "RuntimeException");
    private static final Set<TypeKind> KINDS = Set.of(TypeKind.INT, TypeKind.LONG, TypeKind.SHORT, TypeKind.BYTE,
            TypeKind.CHAR, TypeKind.BOOLEAN, TypeKind.VOID);
    private static final int MOST_LINES = 60;
    private static final int MOST_PARAMETERS = 7;
    private static final int MOST_DEEP = 8;
    private static final int MOST_CLASSES = 12;
    private static final int MOST_FIELDS = 20;

    private final Trees trees;
    private final CompilationUnitTree unit;
    private final Map<String, Set<String>> calls = new TreeMap<>();
    private final Set<String> face = new TreeSet<>();
    private final Set<String> others = new TreeSet<>();
    private String method = "";
    private int classes;
    private int asked;

    private LanguageTest(Trees trees, CompilationUnitTree unit) {
        this.trees = trees;
        this.unit = unit;
    }

    public static void main(String[] args) throws Exception {
        JavaCompiler compiler = ToolProvider.getSystemJavaCompiler();
        try (StandardJavaFileManager files =
                compiler.getStandardFileManager(null, Locale.ROOT, StandardCharsets.UTF_8)) {
            JavacTask task = (JavacTask) compiler.getTask(null, files, null, List.of("-proc:none"), null,
                    files.getJavaFileObjects(Path.of("src/main/java/ClosePacking.java")));
            CompilationUnitTree unit = task.parse().iterator().next();
            task.analyze();
            LanguageTest test = new LanguageTest(Trees.instance(task), unit);
            test.scan(unit, null);
            test.end();
        }
        Check.end();
    }

    private void rule(int number, Tree at, String what, boolean kept) {
        asked++;
        if (!kept) {
            long line = unit.getLineMap().getLineNumber(trees.getSourcePositions().getStartPosition(unit, at));
            Check.same("rule " + number + ", line " + line, what, "kept");
        }
    }

    private void end() {
        Check.due("rules asked", asked > 1000, true);
        Check.due("a package line", unit.getPackageName() == null, true);
        Check.due("classes of the file", unit.getTypeDecls().size(), 1);
        Check.due("classes inside and outside", classes <= MOST_CLASSES, true);
        for (String name : others) {
            Check.due(name + " bears no name of the face", face.contains(name), false);
        }
        int deepest = 0;
        for (String name : calls.keySet()) {
            deepest = Math.max(deepest, depth(name, 1));
        }
        Check.due("calls go deep: " + deepest, deepest <= MOST_DEEP, true);
    }

    /** A method that calls itself, through others too, would go on: it is stopped far beyond what may be. */
    private int depth(String name, int level) {
        int deepest = 1;
        for (String called : calls.getOrDefault(name, Set.of())) {
            if (calls.containsKey(called) && level < 2 * MOST_DEEP) {
                deepest = Math.max(deepest, 1 + depth(called, level + 1));
            }
        }
        return deepest;
    }

    private Element element() {
        return trees.getElement(getCurrentPath());
    }

    private static String nameOf(Element method) {
        return method.getEnclosingElement() + "." + method.getSimpleName();
    }

    private boolean isOwn(Element element) {
        return element != null && element.toString().startsWith("ClosePacking");
    }

    // ---- what is told once

    @Override
    public Void visitImport(ImportTree node, Void none) {
        rule(4, node, node.toString(), node.toString().trim().equals("import java.util.NoSuchElementException;"));
        return null;
    }

    @Override
    public Void visitClass(ClassTree node, Void none) {
        classes++;
        Set<Modifier> modifiers = node.getModifiers().getFlags();
        boolean outermost = getCurrentPath().getParentPath().getLeaf() == unit;
        rule(1, node, "a class that is to be seen", outermost || !modifiers.contains(Modifier.PUBLIC));
        rule(2, node, "a class that is not static", outermost || modifiers.contains(Modifier.STATIC));
        int fields = 0;
        for (Tree member : node.getMembers()) {
            rule(5, member, "a static block", member.getKind() != Tree.Kind.BLOCK);
            boolean constant = member instanceof VariableTree
                    && ((VariableTree) member).getModifiers().getFlags().contains(Modifier.STATIC);
            fields += member instanceof VariableTree && !constant ? 1 : 0;
        }
        rule(11, node, "a class of " + fields + " fields", fields <= MOST_FIELDS);
        return super.visitClass(node, none);
    }

    @Override
    public Void visitMethod(MethodTree node, Void none) {
        Element element = element();
        String name = node.getName().toString();
        Set<Modifier> modifiers = node.getModifiers().getFlags();
        if (!name.equals("<init>")) {
            (modifiers.contains(Modifier.PUBLIC) ? face : others).add(name);
        }
        rule(6, node, name, !Set.of("equals", "hashCode", "toString").contains(name));
        rule(11, node, "many parameters", node.getParameters().size() <= MOST_PARAMETERS);
        long first = unit.getLineMap().getLineNumber(trees.getSourcePositions().getStartPosition(unit, node));
        long last = unit.getLineMap().getLineNumber(trees.getSourcePositions().getEndPosition(unit, node));
        rule(11, node, "a method of many lines", last < first || last - first < MOST_LINES);
        method = nameOf(element);
        calls.putIfAbsent(method, new TreeSet<>());
        super.visitMethod(node, none);
        method = "";
        return null;
    }

    @Override
    public Void visitVariable(VariableTree node, Void none) {
        Element element = element();
        if (element.getModifiers().contains(Modifier.STATIC)) {
            rule(5, node, "a static field that changes", element.getModifiers().contains(Modifier.FINAL));
            boolean written = node.getInitializer() != null
                    && node.getInitializer().getKind() == Tree.Kind.NEW_ARRAY;
            boolean array = element.asType().getKind() == TypeKind.ARRAY;
            rule(5, node, "an array that isn't written out", array == written);
        } else if (element.getKind() == ElementKind.FIELD) {
            rule(1, node, "a field that is to be seen", element.getModifiers().contains(Modifier.PRIVATE));
        }
        allowed(node, element.asType());
        return super.visitVariable(node, none);
    }

    /** The class needs no more than these; rule 3 has some others. */
    private void allowed(Tree at, TypeMirror type) {
        String name = type.toString();
        boolean own = name.startsWith("ClosePacking");
        boolean array = name.matches("(int|long|byte|char|boolean)\\[\\](\\[\\])?");
        rule(3, at, name, own || array || name.equals("java.lang.String") || KINDS.contains(type.getKind()));
    }

    // ---- what is called and thrown

    @Override
    public Void visitMethodInvocation(MethodInvocationTree node, Void none) {
        ExecutableElement called = (ExecutableElement) element();
        TypeElement owner = (TypeElement) called.getEnclosingElement();
        if (isOwn(owner)) {
            calls.computeIfAbsent(method, name -> new TreeSet<>()).add(nameOf(called));
        } else {
            String name = called.getSimpleName().toString();
            boolean clone = name.equals("clone") || name.equals("<init>");
            rule(4, node, owner + "." + name,
                    clone || LIBRARY.getOrDefault(owner.toString(), Set.of()).contains(name));
        }
        return super.visitMethodInvocation(node, none);
    }

    @Override
    public Void visitNewClass(NewClassTree node, Void none) {
        TypeElement made = (TypeElement) element().getEnclosingElement();
        boolean thrown = getCurrentPath().getParentPath().getLeaf() instanceof ThrowTree;
        rule(4, node, "a new " + made, isOwn(made) || thrown);
        return super.visitNewClass(node, none);
    }

    @Override
    public Void visitThrow(ThrowTree node, Void none) {
        ExpressionTree thrown = node.getExpression();
        boolean named = false;
        if (thrown instanceof NewClassTree) {
            NewClassTree made = (NewClassTree) thrown;
            named = EXCEPTIONS.contains(made.getIdentifier().toString()) && made.getArguments().size() <= 1;
            for (ExpressionTree argument : made.getArguments()) {
                named &= argument.getKind() == Tree.Kind.STRING_LITERAL;
            }
        }
        rule(6, node, node.toString(), named && !method.endsWith("<init>"));
        return super.visitThrow(node, none);
    }

    @Override
    public Void visitTry(TryTree node, Void none) {
        rule(6, node, "finally", node.getFinallyBlock() == null && node.getResources().isEmpty());
        return super.visitTry(node, none);
    }

    /** No answer is given by catching what the machine throws. */
    @Override
    public Void visitCatch(CatchTree node, Void none) {
        rule(6, node, node.toString(), false);
        return super.visitCatch(node, none);
    }

    // ---- what is joined and compared

    @Override
    public Void visitBinary(BinaryTree node, Void none) {
        boolean objects = isObject(node.getLeftOperand()) && isObject(node.getRightOperand());
        boolean compared = node.getKind() == Tree.Kind.EQUAL_TO || node.getKind() == Tree.Kind.NOT_EQUAL_TO;
        rule(10, node, node.toString(), node.getKind() != Tree.Kind.PLUS
                || !isObject(node.getLeftOperand()) && !isObject(node.getRightOperand()));
        rule(6, node, node.toString(), !compared || !objects);
        return super.visitBinary(node, none);
    }

    private boolean isObject(Tree operand) {
        TypeMirror type = trees.getTypeMirror(new com.sun.source.util.TreePath(getCurrentPath(), operand));
        return type != null && type.getKind() == TypeKind.DECLARED;
    }

    @Override
    public Void visitCompoundAssignment(CompoundAssignmentTree node, Void none) {
        rule(10, node, node.toString(), !isObject(node.getVariable()));
        return super.visitCompoundAssignment(node, none);
    }

    @Override
    public Void visitLiteral(LiteralTree node, Void none) {
        if (node.getValue() instanceof String) {
            rule(4, node, node.toString(), ((String) node.getValue()).chars().allMatch(c -> c >= 1 && c <= 127));
        }
        rule(3, node, node.toString(), !(node.getValue() instanceof Double) && !(node.getValue() instanceof Float));
        return super.visitLiteral(node, none);
    }

    @Override
    public Void visitLambdaExpression(LambdaExpressionTree node, Void none) {
        rule(2, node, "a lambda", false);
        return super.visitLambdaExpression(node, none);
    }

    @Override
    public Void visitMemberReference(MemberReferenceTree node, Void none) {
        rule(2, node, "a method reference", false);
        return super.visitMemberReference(node, none);
    }

    @Override
    public Void visitSynchronized(SynchronizedTree node, Void none) {
        rule(6, node, "synchronized", false);
        return super.visitSynchronized(node, none);
    }

    @Override
    public Void visitAssert(AssertTree node, Void none) {
        rule(6, node, "assert", false);
        return super.visitAssert(node, none);
    }
}
