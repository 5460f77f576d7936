import com.sun.source.tree.BinaryTree;
import com.sun.source.tree.BlockTree;
import com.sun.source.tree.ClassTree;
import com.sun.source.tree.CompilationUnitTree;
import com.sun.source.tree.CompoundAssignmentTree;
import com.sun.source.tree.ExpressionTree;
import com.sun.source.tree.ForLoopTree;
import com.sun.source.tree.ImportTree;
import com.sun.source.tree.LiteralTree;
import com.sun.source.tree.MethodInvocationTree;
import com.sun.source.tree.MethodTree;
import com.sun.source.tree.NewArrayTree;
import com.sun.source.tree.NewClassTree;
import com.sun.source.tree.Tree;
import com.sun.source.tree.VariableTree;
import com.sun.source.util.JavacTask;
import com.sun.source.util.TreePath;
import com.sun.source.util.TreePathScanner;
import com.sun.source.util.Trees;
import java.io.IOException;
import java.util.HashSet;
import java.util.List;
import java.util.Map;
import java.util.Set;
import java.util.TreeMap;
import java.util.TreeSet;
import javax.lang.model.element.Element;
import javax.lang.model.element.Modifier;
import javax.tools.JavaCompiler;
import javax.tools.StandardJavaFileManager;
import javax.tools.ToolProvider;

/** The rules of ../shared/LANGUAGE.md that can be read off the class's source, as the compiler reads it. */
public final class LanguageTest extends TreePathScanner<Void, Void> {
    private static final String SOURCE = "src/main/java/SlateQuarry.java";
    private static final Set<String> IMPORTS = Set.of("java.util.Arrays");
    // What the class uses of the library that rule 4 lists.
    private static final Set<String> LIBRARY = Set.of("java.lang.Object.<init>", "java.lang.String.length",
            "java.lang.String.charAt", "java.lang.Integer.compare", "java.lang.Math.max",
            "java.lang.Math.floorDiv", "java.util.Arrays.fill");
    private static final Set<String> CONSTANTS = Set.of("int", "long", "boolean", "char", "String", "int[]", "long[]",
            "char[]", "byte[]");
    // Rule 9 lets while stand where a bound can be seen, but the class does without.
    private static final Map<Tree.Kind, String> RULED_OUT = Map.of(Tree.Kind.LAMBDA_EXPRESSION, "rule 2",
            Tree.Kind.MEMBER_REFERENCE, "rule 2", Tree.Kind.THROW, "rule 6", Tree.Kind.TRY, "rule 6",
            Tree.Kind.SYNCHRONIZED, "rule 6", Tree.Kind.ASSERT, "rule 6",
            Tree.Kind.WHILE_LOOP, "rule 9", Tree.Kind.DO_WHILE_LOOP, "rule 9");
    private static final String CONSTRUCTOR = "<init>", GANG = "SlateQuarry.gang";
    private static final int MOST_CLASSES = 12, MOST_FIELDS = 20, MOST_PARAMETERS = 7, MOST_LINES = 60, DEEPEST = 8;

    private final Trees trees;
    private final CompilationUnitTree unit;
    private final Map<String, Set<String>> calls = new TreeMap<>();
    private int classes = 0;

    private LanguageTest(Trees trees, CompilationUnitTree unit) {
        this.trees = trees;
        this.unit = unit;
    }

    public static void main(String[] args) throws IOException {
        JavaCompiler compiler = ToolProvider.getSystemJavaCompiler();
        try (StandardJavaFileManager files = compiler.getStandardFileManager(null, null, null)) {
            JavacTask task = (JavacTask) compiler.getTask(null, files, null, List.of("-proc:none"), null,
                    files.getJavaFileObjects(SOURCE));
            CompilationUnitTree unit = task.parse().iterator().next();
            task.analyze();
            LanguageTest test = new LanguageTest(Trees.instance(task), unit);
            test.scan(unit, null);
            test.wholeFile();
        }
        Due.end();
    }

    private void wholeFile() {
        Due.holds("rule 1: no package, one class", unit.getPackage() == null && unit.getTypeDecls().size() == 1);
        Due.holds("rule 11: " + classes + " classes", classes <= MOST_CLASSES);
        for (String method : calls.keySet()) {
            int deep = depth(method, new HashSet<>());
            Due.holds("rules 8, 11: " + method + " goes " + deep + " calls deep", deep <= DEEPEST);
        }
    }

    /** How many methods stand open at most once a method is called; far too many if it can call itself. */
    private int depth(String method, Set<String> open) {
        if (!open.add(method)) {
            return 1000;
        }
        int deepest = 0;
        for (String called : calls.getOrDefault(method, Set.of())) {
            deepest = Math.max(deepest, depth(called, open));
        }
        open.remove(method);
        return deepest + 1;
    }

    private void ruledOut(String rule, Tree tree) {
        Due.holds(rule + ", line " + line(trees.getSourcePositions().getStartPosition(unit, tree)), false);
    }

    private long line(long position) {
        return unit.getLineMap().getLineNumber(position);
    }

    /** The method around what is being looked at; of a field's initialiser, the constructor. */
    private String caller() {
        for (TreePath path = getCurrentPath(); path != null; path = path.getParentPath()) {
            if (path.getLeaf() instanceof MethodTree) {
                return nameOf(trees.getElement(path));
            }
        }
        return CONSTRUCTOR;
    }

    private boolean isInConstructor() {
        return caller().endsWith(CONSTRUCTOR);
    }

    private static String nameOf(Element method) {
        return method.getEnclosingElement() + "." + method.getSimpleName();
    }

    private void calls(Tree tree) {
        String called = nameOf(trees.getElement(getCurrentPath()));
        if (called.startsWith("SlateQuarry")) {
            calls.computeIfAbsent(caller(), name -> new TreeSet<>()).add(called);
        } else if (!LIBRARY.contains(called)) {
            ruledOut("rule 4: " + called, tree);
        }
    }

    @Override
    public Void scan(Tree tree, Void p) {
        if (tree != null && RULED_OUT.containsKey(tree.getKind())) {
            ruledOut(RULED_OUT.get(tree.getKind()) + ": " + tree.getKind(), tree);
        }
        return super.scan(tree, p);
    }

    @Override
    public Void visitImport(ImportTree tree, Void p) {
        Due.holds("rule 4: " + tree, IMPORTS.contains(tree.getQualifiedIdentifier().toString()));
        return super.visitImport(tree, p);
    }

    @Override
    public Void visitClass(ClassTree tree, Void p) {
        classes++;
        Tree outer = getCurrentPath().getParentPath().getLeaf();
        boolean isStatic = tree.getModifiers().getFlags().contains(Modifier.STATIC);
        Due.holds("rule 2: " + tree.getSimpleName(), outer == unit || outer instanceof ClassTree && isStatic);
        int fields = 0;
        for (Tree member : tree.getMembers()) {
            if (member instanceof BlockTree) {
                ruledOut("rule 5: an initialiser block", member);
            }
            fields += member instanceof VariableTree field && !isStatic(field) ? 1 : 0;
        }
        Due.holds("rule 11: " + fields + " fields of " + tree.getSimpleName(), fields <= MOST_FIELDS);
        return super.visitClass(tree, p);
    }

    private static boolean isStatic(VariableTree field) {
        return field.getModifiers().getFlags().contains(Modifier.STATIC);
    }

    @Override
    public Void visitVariable(VariableTree tree, Void p) {
        if (isStatic(tree)) {
            boolean isFinal = tree.getModifiers().getFlags().contains(Modifier.FINAL);
            Due.holds("rule 5: " + tree, isFinal && CONSTANTS.contains(tree.getType().toString()));
        }
        return super.visitVariable(tree, p);
    }

    @Override
    public Void visitMethod(MethodTree tree, Void p) {
        long first = line(trees.getSourcePositions().getStartPosition(unit, tree));
        long last = line(trees.getSourcePositions().getEndPosition(unit, tree));
        Due.holds("rule 11: parameters of " + tree.getName(), tree.getParameters().size() <= MOST_PARAMETERS);
        Due.holds("rule 11: lines of " + tree.getName(), last - first < MOST_LINES);
        return super.visitMethod(tree, p);
    }

    @Override
    public Void visitMethodInvocation(MethodInvocationTree tree, Void p) {
        calls(tree);
        return super.visitMethodInvocation(tree, p);
    }

    // The room of a run is small, so what an object needs is made with it, but for its gangs.
    @Override
    public Void visitNewClass(NewClassTree tree, Void p) {
        calls(tree);
        Due.holds("rule 2: " + tree, tree.getClassBody() == null);
        Due.holds("rule 12: " + tree + " in " + caller(), isInConstructor() || caller().equals(GANG));
        return super.visitNewClass(tree, p);
    }

    @Override
    public Void visitNewArray(NewArrayTree tree, Void p) {
        Due.holds("rule 12: " + tree + " in " + caller(), isInConstructor());
        return super.visitNewArray(tree, p);
    }

    @Override
    public Void visitForLoop(ForLoopTree tree, Void p) {
        if (tree.getCondition() == null || tree.getUpdate().isEmpty()) {
            ruledOut("rule 9: a loop without a counter", tree);
        }
        return super.visitForLoop(tree, p);
    }

    @Override
    public Void visitBinary(BinaryTree tree, Void p) {
        if (trees.getTypeMirror(getCurrentPath()).toString().equals("java.lang.String")) {
            ruledOut("rule 10: texts joined by +", tree);
        }
        if (tree.getKind() == Tree.Kind.DIVIDE || tree.getKind() == Tree.Kind.REMAINDER) {
            divisor(tree.getRightOperand());
        }
        return super.visitBinary(tree, p);
    }

    @Override
    public Void visitCompoundAssignment(CompoundAssignmentTree tree, Void p) {
        if (tree.getKind() == Tree.Kind.DIVIDE_ASSIGNMENT || tree.getKind() == Tree.Kind.REMAINDER_ASSIGNMENT) {
            divisor(tree.getExpression());
        }
        return super.visitCompoundAssignment(tree, p);
    }

    private void divisor(ExpressionTree by) {
        boolean isSafe = by instanceof LiteralTree number && !number.getValue().equals(0);
        Due.holds("rule 7: divided by " + by, isSafe);
    }
}
