import com.sun.source.tree.BinaryTree;
import com.sun.source.tree.ClassTree;
import com.sun.source.tree.CompilationUnitTree;
import com.sun.source.tree.ConditionalExpressionTree;
import com.sun.source.tree.ExpressionTree;
import com.sun.source.tree.MethodInvocationTree;
import com.sun.source.tree.MethodTree;
import com.sun.source.tree.NewArrayTree;
import com.sun.source.tree.NewClassTree;
import com.sun.source.tree.Tree;
import com.sun.source.tree.VariableTree;
import com.sun.source.util.JavacTask;
import com.sun.source.util.SourcePositions;
import com.sun.source.util.TreePath;
import com.sun.source.util.TreePathScanner;
import com.sun.source.util.Trees;
import java.io.IOException;
import java.nio.file.Path;
import java.util.ArrayList;
import java.util.LinkedHashMap;
import java.util.LinkedHashSet;
import java.util.List;
import java.util.Map;
import java.util.Set;
import javax.lang.model.element.Element;
import javax.lang.model.element.ElementKind;
import javax.lang.model.element.ExecutableElement;
import javax.lang.model.element.Modifier;
import javax.lang.model.element.TypeElement;
import javax.lang.model.element.VariableElement;
import javax.lang.model.type.TypeMirror;
import javax.lang.model.util.Elements;
import javax.tools.JavaCompiler;
import javax.tools.StandardJavaFileManager;
import javax.tools.ToolProvider;

/** The program as the compiler reads it: who calls whom, what is made where, what is divided and compared. */
final class Program extends TreePathScanner<Void, Void> {
    /** Methods and constructors of the program, as "Class.name", each with those that it may call. */
    final Map<String, Set<String>> calls = new LinkedHashMap<>();
    final Map<String, List<String>> parameters = new LinkedHashMap<>();
    final Map<String, Integer> lines = new LinkedHashMap<>();
    final Set<String> publicMethods = new LinkedHashSet<>();
    final Set<String> privateMethods = new LinkedHashSet<>();
    /** Methods of the library, as "Class.name". */
    final Set<String> library = new LinkedHashSet<>();
    /** Where objects and arrays are made, other than in initialisers and constructors. */
    final Set<String> makers = new LinkedHashSet<>();
    final List<String> unguardedDivisions = new ArrayList<>();
    final List<String> comparedTexts = new ArrayList<>();
    final List<String> staticFields = new ArrayList<>();

    private final List<ExecutableElement> methods = new ArrayList<>();
    private final Set<List<String>> overridableCalls = new LinkedHashSet<>();
    private final Trees trees;
    private final Elements elements;
    private final CompilationUnitTree unit;

    private Program(JavacTask task) throws IOException {
        unit = task.parse().iterator().next();
        task.analyze();
        trees = Trees.instance(task);
        elements = task.getElements();
    }

    static Program read(Path source) throws IOException {
        JavaCompiler compiler = ToolProvider.getSystemJavaCompiler();
        try (StandardJavaFileManager files = compiler.getStandardFileManager(null, null, null)) {
            JavacTask task = (JavacTask) compiler.getTask(null, files, null, List.of("-proc:none"), null,
                files.getJavaFileObjects(source));
            Program program = new Program(task);
            program.scan(program.unit, null);
            program.callWhatOverrides();
            return program;
        }
    }

    private static String named(Element member) {
        return member.getEnclosingElement().getSimpleName() + "." + member.getSimpleName();
    }

    private boolean isOwn(Element member) {
        return elements.getPackageOf(member).isUnnamed();
    }

    /** The method in which the tree that is looked at stands; null in an initialiser. */
    private ExecutableElement method() {
        for (TreePath path = getCurrentPath(); path != null; path = path.getParentPath()) {
            if (path.getLeaf() instanceof MethodTree) return (ExecutableElement) trees.getElement(path);
        }
        return null;
    }

    private int lineOf(Tree tree, boolean end) {
        SourcePositions positions = trees.getSourcePositions();
        long start = positions.getStartPosition(unit, tree);
        // What the compiler puts in by itself has no end.
        long at = end ? Math.max(start, positions.getEndPosition(unit, tree)) : start;
        return (int) unit.getLineMap().getLineNumber(at);
    }

    private String told(Tree tree) {
        return "line " + lineOf(tree, false) + ": " + tree;
    }

    @Override
    public Void visitMethod(MethodTree tree, Void unused) {
        ExecutableElement method = (ExecutableElement) trees.getElement(getCurrentPath());
        methods.add(method);
        calls.computeIfAbsent(named(method), name -> new LinkedHashSet<>());
        List<String> names = new ArrayList<>();
        for (VariableElement parameter : method.getParameters()) names.add(parameter.getSimpleName().toString());
        parameters.put(named(method), names);
        boolean made = method.getKind() == ElementKind.CONSTRUCTOR;
        if (!made && method.getModifiers().contains(Modifier.PUBLIC)) publicMethods.add(named(method));
        if (!made && method.getModifiers().contains(Modifier.PRIVATE)) privateMethods.add(named(method));
        lines.put(named(method), lineOf(tree, true) - lineOf(tree, false) + 1);
        return super.visitMethod(tree, unused);
    }

    @Override
    public Void visitMethodInvocation(MethodInvocationTree tree, Void unused) {
        called(trees.getElement(getCurrentPath()), !tree.getMethodSelect().toString().startsWith("super."));
        return super.visitMethodInvocation(tree, unused);
    }

    private void called(Element callee, boolean overridable) {
        if (!isOwn(callee)) library.add(named(callee));
        if (!isOwn(callee) || method() == null) return;
        calls.computeIfAbsent(named(method()), name -> new LinkedHashSet<>()).add(named(callee));
        if (overridable) overridableCalls.add(List.of(named(method()), named(callee)));
    }

    // Such a call may come to each method that overrides the one that is named.
    private void callWhatOverrides() {
        for (ExecutableElement over : methods) {
            for (ExecutableElement under : methods) {
                if (!elements.overrides(over, under, (TypeElement) over.getEnclosingElement())) continue;
                for (List<String> call : overridableCalls) {
                    if (call.get(1).equals(named(under))) calls.get(call.get(0)).add(named(over));
                }
            }
        }
    }

    @Override
    public Void visitNewClass(NewClassTree tree, Void unused) {
        made();
        called(trees.getElement(getCurrentPath()), false);
        return super.visitNewClass(tree, unused);
    }

    @Override
    public Void visitNewArray(NewArrayTree tree, Void unused) {
        made();
        return super.visitNewArray(tree, unused);
    }

    private void made() {
        if (method() != null && method().getKind() != ElementKind.CONSTRUCTOR) makers.add(named(method()));
    }

    @Override
    public Void visitVariable(VariableTree tree, Void unused) {
        Element variable = trees.getElement(getCurrentPath());
        boolean field = getCurrentPath().getParentPath().getLeaf() instanceof ClassTree;
        if (field && variable.getModifiers().contains(Modifier.STATIC)) staticFields.add(variable.asType() + " " + named(variable));
        return super.visitVariable(tree, unused);
    }

    @Override
    public Void visitBinary(BinaryTree tree, Void unused) {
        Tree.Kind kind = tree.getKind();
        if (kind == Tree.Kind.DIVIDE || kind == Tree.Kind.REMAINDER) divided(tree);
        if (kind == Tree.Kind.EQUAL_TO || kind == Tree.Kind.NOT_EQUAL_TO) compared(tree);
        return super.visitBinary(tree, unused);
    }

    // b == 0 ? .. : a / b is looked for, and no other guard.
    private void divided(BinaryTree tree) {
        if (isConstantNot0(tree.getRightOperand())) return;
        boolean guarded = false;
        if (getCurrentPath().getParentPath().getLeaf() instanceof ConditionalExpressionTree around) {
            guarded = around.getCondition().toString().equals(tree.getRightOperand() + " == 0")
                && around.getFalseExpression() == tree;
        }
        if (!guarded) unguardedDivisions.add(told(tree));
    }

    private boolean isConstantNot0(ExpressionTree tree) {
        if (tree.getKind() == Tree.Kind.INT_LITERAL) return !tree.toString().equals("0");
        Element element = trees.getElement(new TreePath(getCurrentPath(), tree));
        return element instanceof VariableElement named && named.getConstantValue() instanceof Integer value && value != 0;
    }

    private void compared(BinaryTree tree) {
        TypeMirror left = trees.getTypeMirror(new TreePath(getCurrentPath(), tree.getLeftOperand()));
        TypeMirror right = trees.getTypeMirror(new TreePath(getCurrentPath(), tree.getRightOperand()));
        if ((left + " " + right).contains("java.lang.")) comparedTexts.add(told(tree));
    }
}
