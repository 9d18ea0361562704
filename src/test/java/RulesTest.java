import com.sun.source.tree.BinaryTree;
import com.sun.source.tree.ClassTree;
import com.sun.source.tree.CompilationUnitTree;
import com.sun.source.tree.CompoundAssignmentTree;
import com.sun.source.tree.ExpressionTree;
import com.sun.source.tree.ForLoopTree;
import com.sun.source.tree.LiteralTree;
import com.sun.source.tree.MethodInvocationTree;
import com.sun.source.tree.MethodTree;
import com.sun.source.tree.NewArrayTree;
import com.sun.source.tree.NewClassTree;
import com.sun.source.tree.Tree;
import com.sun.source.tree.VariableTree;
import com.sun.source.util.JavacTask;
import com.sun.source.util.TreePath;
import com.sun.source.util.TreePathScanner;
import com.sun.source.util.Trees;
import java.nio.file.Path;
import java.util.HashMap;
import java.util.HashSet;
import java.util.List;
import java.util.Map;
import java.util.Set;
import javax.lang.model.element.Element;
import javax.lang.model.element.ElementKind;
import javax.lang.model.element.ExecutableElement;
import javax.lang.model.element.Modifier;
import javax.lang.model.element.VariableElement;
import javax.lang.model.type.TypeMirror;
import javax.tools.JavaCompiler;
import javax.tools.StandardJavaFileManager;
import javax.tools.ToolProvider;

/** The rules of LANGUAGE.md, as far as the compiler's own tree of the source can show that they are kept. */
public final class RulesTest extends TreePathScanner<Void, Void> {
    private static final int MOST_LINES = 60;
    private static final int MOST_PARAMETERS = 7;
    private static final int MOST_DEEP = 8;
    private static final int MOST_CLASSES = 12;
    private static final int MOST_FIELDS = 20;

    /** The class uses no more of the library than this; the rules would allow more. */
    private static final Set<String> LIBRARY = Set.of("java.lang.Math.max", "java.lang.Math.min",
        "java.lang.Math.floorMod", "java.lang.System.arraycopy", "java.util.Arrays.fill",
        "java.lang.String.length", "java.lang.String.charAt");
    private static final Set<String> TYPES = Set.of("void", "int", "boolean", "int[]", "java.lang.String");
    private static final Set<Tree.Kind> RULED_OUT = Set.of(Tree.Kind.THROW, Tree.Kind.TRY, Tree.Kind.CATCH,
        Tree.Kind.SYNCHRONIZED, Tree.Kind.ASSERT, Tree.Kind.LAMBDA_EXPRESSION, Tree.Kind.MEMBER_REFERENCE,
        Tree.Kind.TYPE_CAST, Tree.Kind.INSTANCE_OF, Tree.Kind.ANNOTATION, Tree.Kind.ENHANCED_FOR_LOOP,
        Tree.Kind.LABELED_STATEMENT, Tree.Kind.SWITCH_EXPRESSION);

    private final Trees trees;
    private final CompilationUnitTree file;
    private final Map<Element, Set<Element>> calls = new HashMap<>();
    private final Set<Tree.Kind> kinds = new HashSet<>();
    private int classes = 0;

    private RulesTest(Trees trees, CompilationUnitTree file) {
        this.trees = trees;
        this.file = file;
    }

    public static void main(String[] args) throws Exception {
        JavaCompiler compiler = ToolProvider.getSystemJavaCompiler();
        try (StandardJavaFileManager files = compiler.getStandardFileManager(null, null, null)) {
            Path source = Path.of(args.length > 0 ? args[0] : "src/main/java/SmokeRoofs.java");
            JavacTask task = (JavacTask) compiler.getTask(null, files, null, List.of("-proc:none"), null,
                files.getJavaFileObjects(source));
            CompilationUnitTree file = task.parse().iterator().next();
            task.analyze();
            RulesTest rules = new RulesTest(Trees.instance(task), file);
            rules.scan(file, null);
            rules.whole();
        }
        Check.end();
    }

    private void whole() {
        Check.holds("rule 11: " + classes + " classes", classes <= MOST_CLASSES);
        Check.holds("rule 1: no package", file.getPackageName() == null);
        Check.due("rule 4: imports", file.getImports().size(), 1);
        for (Tree.Kind kind : kinds) {
            // Casts to byte and short are the only ones: they take the lowest bits of a number.
            Check.holds("rules 2, 6 and 9: no " + kind, kind == Tree.Kind.TYPE_CAST || !RULED_OUT.contains(kind));
        }
        for (Element method : calls.keySet()) {
            int deep = deep(method, new HashSet<>());
            Check.holds("rules 8 and 11: " + method + " goes " + deep + " deep", deep <= MOST_DEEP);
        }
    }

    /** How many calls stand open at most, this one and the library's included; more than allowed in a ring. */
    private int deep(Element method, Set<Element> open) {
        if (!open.add(method)) {
            return MOST_DEEP + 1;
        }
        int deepest = 0;
        for (Element called : calls.getOrDefault(method, Set.of())) {
            deepest = Math.max(deepest, deep(called, open));
        }
        open.remove(method);
        return deepest + 1;
    }

    @Override
    public Void scan(Tree tree, Void none) {
        if (tree != null) {
            kinds.add(tree.getKind());
        }
        return super.scan(tree, none);
    }

    @Override
    public Void visitClass(ClassTree tree, Void none) {
        classes++;
        Element element = trees.getElement(getCurrentPath());
        boolean isFace = tree.getSimpleName().contentEquals("SmokeRoofs");
        Check.holds("rule 2: " + element + " is static and has a name", isFace
            || element.getModifiers().contains(Modifier.STATIC) && tree.getSimpleName().length() > 0);
        int fields = 0;
        for (Tree member : tree.getMembers()) {
            Check.holds("rule 5: no block in " + element, member.getKind() != Tree.Kind.BLOCK);
            boolean isField = member instanceof VariableTree;
            fields += isField && !((VariableTree) member).getModifiers().getFlags().contains(Modifier.STATIC) ? 1 : 0;
        }
        Check.holds("rule 11: " + element + " has " + fields + " fields", fields <= MOST_FIELDS);
        return super.visitClass(tree, none);
    }

    @Override
    public Void visitMethod(MethodTree tree, Void none) {
        Element element = trees.getElement(getCurrentPath());
        calls.putIfAbsent(element, new HashSet<>());
        Check.holds("rule 11: parameters of " + element, tree.getParameters().size() <= MOST_PARAMETERS);
        long lines = lineOf(trees.getSourcePositions().getEndPosition(file, tree))
            - lineOf(trees.getSourcePositions().getStartPosition(file, tree)) + 1;
        Check.holds("rule 11: " + element + " has " + lines + " lines", lines <= MOST_LINES);
        if (tree.getReturnType() != null) {
            type(trees.getTypeMirror(new TreePath(getCurrentPath(), tree.getReturnType())));
        }
        return super.visitMethod(tree, none);
    }

    private long lineOf(long position) {
        return position < 0 ? 0 : file.getLineMap().getLineNumber(position);
    }

    @Override
    public Void visitVariable(VariableTree tree, Void none) {
        Element element = trees.getElement(getCurrentPath());
        type(element.asType());
        if (element.getKind() == ElementKind.FIELD && element.getModifiers().contains(Modifier.STATIC)) {
            boolean isArray = tree.getInitializer() instanceof NewArrayTree;
            Check.holds("rule 5: " + element + " is a constant", element.getModifiers().contains(Modifier.FINAL)
                && (isArray || ((VariableElement) element).getConstantValue() != null));
        }
        return super.visitVariable(tree, none);
    }

    private static void type(TypeMirror type) {
        String name = type.toString();
        String plain = name.endsWith("[]") ? name.substring(0, name.length() - 2) : name;
        Check.holds("rule 3: " + name, TYPES.contains(name) || plain.startsWith("SmokeRoofs."));
    }

    @Override
    public Void visitMethodInvocation(MethodInvocationTree tree, Void none) {
        Element called = trees.getElement(new TreePath(getCurrentPath(), tree.getMethodSelect()));
        Element owner = called.getEnclosingElement();
        boolean isOwn = owner.toString().startsWith("SmokeRoofs");
        String name = owner + "." + called.getSimpleName();
        // Each constructor begins with a call of Object's own.
        Check.holds("rule 4: " + name, isOwn || LIBRARY.contains(name) || called.getKind() == ElementKind.CONSTRUCTOR);
        if (called.getKind() == ElementKind.METHOD) {
            open(called);
        }
        return super.visitMethodInvocation(tree, none);
    }

    @Override
    public Void visitNewClass(NewClassTree tree, Void none) {
        Element made = trees.getElement(getCurrentPath());
        Check.holds("rule 2: no class without a name", tree.getClassBody() == null);
        open(made);
        onlyAtFirst("rule 12: " + made + " is made at first alone");
        return super.visitNewClass(tree, none);
    }

    @Override
    public Void visitNewArray(NewArrayTree tree, Void none) {
        onlyAtFirst("rule 12: arrays are made at first alone");
        for (ExpressionTree length : tree.getDimensions()) {
            Check.holds("rule 7: " + length + " is a good length", constant(length) > 0);
        }
        return super.visitNewArray(tree, none);
    }

    /** By a constructor or as a field's first value: no call makes anything. */
    private void onlyAtFirst(String what) {
        ExecutableElement method = methodAround();
        Check.holds(what, method == null || method.getKind() == ElementKind.CONSTRUCTOR);
    }

    private ExecutableElement methodAround() {
        for (TreePath at = getCurrentPath(); at != null; at = at.getParentPath()) {
            if (at.getLeaf() instanceof MethodTree) {
                return (ExecutableElement) trees.getElement(at);
            }
        }
        return null;
    }

    private void open(Element called) {
        ExecutableElement caller = methodAround();
        if (caller != null) {
            calls.computeIfAbsent(caller, none -> new HashSet<>()).add(called);
        }
    }

    @Override
    public Void visitBinary(BinaryTree tree, Void none) {
        boolean isQuotient = tree.getKind() == Tree.Kind.DIVIDE || tree.getKind() == Tree.Kind.REMAINDER;
        Check.holds("rule 7: " + tree + " is by a constant", !isQuotient || constant(tree.getRightOperand()) > 0);
        if (tree.getKind() == Tree.Kind.EQUAL_TO || tree.getKind() == Tree.Kind.NOT_EQUAL_TO) {
            for (ExpressionTree side : List.of(tree.getLeftOperand(), tree.getRightOperand())) {
                TypeMirror type = trees.getTypeMirror(new TreePath(getCurrentPath(), side));
                Check.holds("rule 6: " + tree + " compares numbers", type.getKind().isPrimitive());
            }
        }
        return super.visitBinary(tree, none);
    }

    @Override
    public Void visitCompoundAssignment(CompoundAssignmentTree tree, Void none) {
        Set<Tree.Kind> quotients = Set.of(Tree.Kind.DIVIDE_ASSIGNMENT, Tree.Kind.REMAINDER_ASSIGNMENT);
        Check.holds("rule 7: " + tree, !quotients.contains(tree.getKind()));
        return super.visitCompoundAssignment(tree, none);
    }

    @Override
    public Void visitForLoop(ForLoopTree tree, Void none) {
        Check.holds("rule 9: " + tree.getCondition() + " is an end", tree.getCondition() != null
            && tree.getUpdate().size() == 1);
        return super.visitForLoop(tree, none);
    }

    /** What a literal or a constant is; 0 for all else. */
    private int constant(ExpressionTree tree) {
        if (tree instanceof LiteralTree literal && literal.getValue() instanceof Integer value) {
            return value;
        }
        Element element = trees.getElement(new TreePath(getCurrentPath(), tree));
        boolean isConstant = element instanceof VariableElement v && v.getConstantValue() instanceof Integer;
        return isConstant ? (Integer) ((VariableElement) element).getConstantValue() : 0;
    }
}
