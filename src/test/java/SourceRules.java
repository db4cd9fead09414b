import com.sun.source.tree.BinaryTree;
import com.sun.source.tree.BlockTree;
import com.sun.source.tree.ClassTree;
import com.sun.source.tree.CompilationUnitTree;
import com.sun.source.tree.CompoundAssignmentTree;
import com.sun.source.tree.ExpressionTree;
import com.sun.source.tree.ForLoopTree;
import com.sun.source.tree.ImportTree;
import com.sun.source.tree.LiteralTree;
import com.sun.source.tree.MethodInvocationTree;
import com.sun.source.tree.MethodTree;
import com.sun.source.tree.NewArrayTree;
import com.sun.source.tree.NewClassTree;
import com.sun.source.tree.Tree;
import com.sun.source.tree.TypeCastTree;
import com.sun.source.tree.VariableTree;
import com.sun.source.util.JavacTask;
import com.sun.source.util.TreePath;
import com.sun.source.util.TreePathScanner;
import com.sun.source.util.Trees;
import java.io.IOException;
import java.net.URI;
import java.util.ArrayList;
import java.util.LinkedHashMap;
import java.util.LinkedHashSet;
import java.util.List;
import java.util.Map;
import java.util.Set;
import javax.lang.model.element.Element;
import javax.lang.model.element.ElementKind;
import javax.lang.model.element.ExecutableElement;
import javax.lang.model.element.Modifier;
import javax.lang.model.type.ArrayType;
import javax.lang.model.type.TypeKind;
import javax.lang.model.type.TypeMirror;
import javax.tools.JavaCompiler;
import javax.tools.JavaFileObject;
import javax.tools.SimpleJavaFileObject;
import javax.tools.ToolProvider;

/** Looks through a source, as the compiler sees it, for what ../shared/LANGUAGE.md does not leave. */
final class SourceRules extends TreePathScanner<Void, Void> {
    private static final int MOST_CLASSES = 12, MOST_FIELDS = 20, MOST_PARAMETERS = 7, MOST_LINES = 60, MOST_DEEP = 8;
    private static final Set<String> LIBRARY_TYPES = Set.of("java.lang.String", "java.lang.StringBuilder",
        "java.lang.Integer", "java.util.ArrayList", "java.util.List");
    private static final Map<String, String> LIBRARY = Map.of(
        "java.lang.String", "length|charAt|isEmpty|equals|indexOf|substring|toCharArray",
        "java.lang.StringBuilder", "append|charAt|setCharAt|setLength|deleteCharAt|reverse|length|toString",
        "java.util.ArrayList", "add|get|set|remove|size|isEmpty|clear",
        "java.util.List", "add|get|set|remove|size|isEmpty|clear|of",
        "java.lang.Math", "\\w+(?<!Exact)", "java.lang.Integer", "\\w+(?<!Exact)", "java.lang.Long", "\\w+(?<!Exact)",
        "java.lang.System", "arraycopy", "java.util.Arrays", "copyOf|copyOfRange|fill", "java.lang.Object", "clone");

    /** What may not stand at all; loops without a counter of their own are not needed, and have no end to be seen. */
    private static final Map<Tree.Kind, Integer> NOT_LEFT = Map.of(
        Tree.Kind.LAMBDA_EXPRESSION, 2, Tree.Kind.MEMBER_REFERENCE, 2, Tree.Kind.THROW, 6, Tree.Kind.TRY, 6,
        Tree.Kind.SYNCHRONIZED, 6, Tree.Kind.ASSERT, 6, Tree.Kind.WHILE_LOOP, 9, Tree.Kind.DO_WHILE_LOOP, 9);

    /** What was found, each with the rule's number ahead. */
    final List<String> found = new ArrayList<>();
    private final Map<Element, Set<Element>> calledBy = new LinkedHashMap<>();
    private Trees trees;
    private CompilationUnitTree unit;
    private int classes = 0;

    private SourceRules() {
    }

    static List<String> broken(String className, String source) throws IOException {
        SourceRules rules = new SourceRules();
        rules.look(className, source);
        return rules.found;
    }

    private void look(String className, String source) throws IOException {
        if (!source.chars().allMatch(sign -> sign > 0 && sign < 128)) {
            found.add("4: a sign that is not 1 to 127");
        }
        JavaCompiler compiler = ToolProvider.getSystemJavaCompiler();
        List<String> errors = new ArrayList<>();
        JavacTask task = (JavacTask) compiler.getTask(null, null, message -> errors.add(message.toString()),
            List.of("-proc:none"), null, List.of(new Text(className, source)));
        trees = Trees.instance(task);
        List<CompilationUnitTree> units = new ArrayList<>();
        task.parse().forEach(units::add);
        task.analyze();
        errors.forEach(error -> found.add("0: " + error));
        for (CompilationUnitTree each : units) {
            unit = each;
            scan(each, null);
        }
        lookAtDepth();
        if (classes > MOST_CLASSES) {
            found.add("11: " + classes + " classes");
        }
    }

    private void add(int rule, Tree tree) {
        long line = unit.getLineMap().getLineNumber(trees.getSourcePositions().getStartPosition(unit, tree));
        found.add(rule + ": line " + line + ": " + tree.toString().strip().lines().findFirst().orElse(""));
    }

    private void want(int rule, boolean holds, Tree tree) {
        if (!holds) {
            add(rule, tree);
        }
    }

    private TypeMirror typeOf(Tree tree) {
        return trees.getTypeMirror(new TreePath(getCurrentPath(), tree));
    }

    @Override
    public Void scan(Tree tree, Void none) {
        if (tree != null && NOT_LEFT.containsKey(tree.getKind())) {
            add(NOT_LEFT.get(tree.getKind()), tree);
        }
        if (tree instanceof NewClassTree || tree instanceof NewArrayTree) {
            // the class makes all its rows once, so that no call makes one
            Element maker = callerOfPath();
            want(12, maker == null || maker.getKind() == ElementKind.CONSTRUCTOR, tree);
        }
        return super.scan(tree, none);
    }

    // ---- classes, members, types

    @Override
    public Void visitImport(ImportTree tree, Void none) {
        want(4, LIBRARY.containsKey(tree.getQualifiedIdentifier().toString()), tree);
        return super.visitImport(tree, none);
    }

    @Override
    public Void visitClass(ClassTree tree, Void none) {
        classes++;
        Element element = trees.getElement(getCurrentPath());
        Element outer = element.getEnclosingElement();
        boolean inside = outer.getKind() != ElementKind.PACKAGE;
        want(2, !inside || outer.getKind().isClass() && element.getModifiers().contains(Modifier.STATIC), tree);
        want(2, !tree.getSimpleName().isEmpty(), tree);
        long fields = element.getEnclosedElements().stream()
            .filter(member -> member.getKind() == ElementKind.FIELD && !member.getModifiers().contains(Modifier.STATIC)).count();
        want(11, fields <= MOST_FIELDS, tree);
        return super.visitClass(tree, none);
    }

    @Override
    public Void visitMethod(MethodTree tree, Void none) {
        calledBy.put(trees.getElement(getCurrentPath()), new LinkedHashSet<>());
        want(11, tree.getParameters().size() <= MOST_PARAMETERS, tree);
        long start = trees.getSourcePositions().getStartPosition(unit, tree);
        long end = trees.getSourcePositions().getEndPosition(unit, tree);
        if (end >= 0) {
            want(11, unit.getLineMap().getLineNumber(end) - unit.getLineMap().getLineNumber(start) < MOST_LINES, tree);
        }
        want(6, !tree.getName().toString().matches("equals|hashCode|toString"), tree);
        return super.visitMethod(tree, none);
    }

    @Override
    public Void visitBlock(BlockTree tree, Void none) {
        want(5, !(getCurrentPath().getParentPath().getLeaf() instanceof ClassTree) || !tree.isStatic(), tree);
        return super.visitBlock(tree, none);
    }

    @Override
    public Void visitVariable(VariableTree tree, Void none) {
        Element element = trees.getElement(getCurrentPath());
        want(3, isLeft(element.asType(), 0), tree);
        if (element.getKind() == ElementKind.FIELD && element.getModifiers().contains(Modifier.STATIC)) {
            want(5, element.getModifiers().contains(Modifier.FINAL), tree);
            want(5, !(element.asType() instanceof ArrayType) || tree.getInitializer() instanceof NewArrayTree, tree);
        }
        return super.visitVariable(tree, none);
    }

    private static boolean isLeft(TypeMirror type, int dimensions) {
        if (type instanceof ArrayType array) {
            return isLeft(array.getComponentType(), dimensions + 1);
        }
        if (type.getKind().isPrimitive()) {
            return dimensions <= 2;
        }
        String name = type.toString().replaceAll("<.*", "");
        return dimensions <= 1 && (!name.startsWith("java") || LIBRARY_TYPES.contains(name));
    }

    // ---- what may be called and made

    @Override
    public Void visitMethodInvocation(MethodInvocationTree tree, Void none) {
        Element called = trees.getElement(getCurrentPath());
        if (called instanceof ExecutableElement && !called.getSimpleName().contentEquals("<init>")) {
            String owner = called.getEnclosingElement().toString();
            boolean own = !owner.startsWith("java");
            want(4, own || called.getSimpleName().toString().matches(LIBRARY.getOrDefault(owner, "(?!)")), tree);
            Element caller = callerOfPath();
            if (own && caller != null) {
                calledBy.get(caller).add(called);
            }
        }
        return super.visitMethodInvocation(tree, none);
    }

    private TreePath methodOfPath() {
        TreePath path = getCurrentPath();
        while (path != null && !(path.getLeaf() instanceof MethodTree)) {
            path = path.getParentPath();
        }
        return path;
    }

    private Element callerOfPath() {
        TreePath method = methodOfPath();
        return method == null ? null : trees.getElement(method);
    }

    private void lookAtDepth() {
        for (Element method : calledBy.keySet()) {
            int deep = depthOf(method, MOST_DEEP + 1);
            if (deep > MOST_DEEP) {
                found.add("11: calls below " + method + " go deeper than " + MOST_DEEP + ", or in a ring");
            }
        }
    }

    private int depthOf(Element method, int left) {
        int deepest = 0;
        for (Element called : left == 0 ? Set.<Element>of() : calledBy.getOrDefault(method, Set.of())) {
            deepest = Math.max(deepest, depthOf(called, left - 1));
        }
        return deepest + 1;
    }

    // ---- numbers and loops

    @Override
    public Void visitTypeCast(TypeCastTree tree, Void none) {
        want(6, typeOf(tree).getKind().isPrimitive(), tree);
        return super.visitTypeCast(tree, none);
    }

    @Override
    public Void visitBinary(BinaryTree tree, Void none) {
        switch (tree.getKind()) {
            case EQUAL_TO, NOT_EQUAL_TO -> want(6, !isText(tree.getLeftOperand()) || !isText(tree.getRightOperand()), tree);
            case PLUS -> want(10, !isText(tree.getLeftOperand()) && !isText(tree.getRightOperand()), tree);
            case DIVIDE, REMAINDER -> wantDivisorLookedAt(tree, tree.getRightOperand());
            default -> { }
        }
        return super.visitBinary(tree, none);
    }

    @Override
    public Void visitCompoundAssignment(CompoundAssignmentTree tree, Void none) {
        if (tree.getKind() == Tree.Kind.DIVIDE_ASSIGNMENT || tree.getKind() == Tree.Kind.REMAINDER_ASSIGNMENT) {
            wantDivisorLookedAt(tree, tree.getExpression());
        }
        return super.visitCompoundAssignment(tree, none);
    }

    private boolean isText(Tree tree) {
        TypeMirror type = typeOf(tree);
        return type != null && type.getKind() == TypeKind.DECLARED && type.toString().equals("java.lang.String");
    }

    /** A constant, or a name that stands in a test against 0, or that is answered by commonDivisor(), 1 at the least. */
    private void wantDivisorLookedAt(Tree tree, ExpressionTree divisor) {
        Element element = trees.getElement(new TreePath(getCurrentPath(), divisor));
        boolean constant = divisor instanceof LiteralTree || element != null && element.getModifiers().contains(Modifier.STATIC);
        TreePath method = methodOfPath();
        String code = method == null ? "" : method.getLeaf().toString();
        want(7, constant || code.contains(divisor + " != 0") || code.contains(divisor + " = commonDivisor("), tree);
    }

    @Override
    public Void visitForLoop(ForLoopTree tree, Void none) {
        boolean counts = tree.getUpdate().size() == 1 && tree.getUpdate().get(0).toString().matches("\\w+(\\+\\+|--);?");
        want(9, counts && tree.getCondition() != null, tree);
        if (counts && tree.getCondition() != null) {
            String counter = tree.getUpdate().get(0).toString().replaceAll("\\W", "");
            want(9, tree.getCondition().toString().matches(".*\\b" + counter + " (<|<=|>|>=) .*"), tree);
        }
        return super.visitForLoop(tree, none);
    }

    /** A source that is in no file. */
    private static final class Text extends SimpleJavaFileObject {
        private final String source;

        Text(String className, String source) {
            super(URI.create("string:///" + className + ".java"), JavaFileObject.Kind.SOURCE);
            this.source = source;
        }

        @Override
        public CharSequence getCharContent(boolean ignoreErrors) {
            return source;
        }
    }
}
