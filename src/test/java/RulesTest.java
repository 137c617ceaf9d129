import com.sun.source.tree.AssertTree;
import com.sun.source.tree.AssignmentTree;
import com.sun.source.tree.BinaryTree;
import com.sun.source.tree.BlockTree;
import com.sun.source.tree.ClassTree;
import com.sun.source.tree.CompilationUnitTree;
import com.sun.source.tree.CompoundAssignmentTree;
import com.sun.source.tree.DoWhileLoopTree;
import com.sun.source.tree.ExpressionTree;
import com.sun.source.tree.ForLoopTree;
import com.sun.source.tree.IdentifierTree;
import com.sun.source.tree.LambdaExpressionTree;
import com.sun.source.tree.LineMap;
import com.sun.source.tree.MemberReferenceTree;
import com.sun.source.tree.MethodInvocationTree;
import com.sun.source.tree.MethodTree;
import com.sun.source.tree.NewArrayTree;
import com.sun.source.tree.NewClassTree;
import com.sun.source.tree.ParenthesizedTree;
import com.sun.source.tree.SynchronizedTree;
import com.sun.source.tree.ThrowTree;
import com.sun.source.tree.Tree;
import com.sun.source.tree.TryTree;
import com.sun.source.tree.TypeCastTree;
import com.sun.source.tree.UnaryTree;
import com.sun.source.tree.VariableTree;
import com.sun.source.tree.WhileLoopTree;
import com.sun.source.util.JavacTask;
import com.sun.source.util.SourcePositions;
import com.sun.source.util.TreePath;
import com.sun.source.util.TreePathScanner;
import com.sun.source.util.TreeScanner;
import com.sun.source.util.Trees;
import java.io.IOException;
import java.nio.file.Path;
import java.util.HashMap;
import java.util.HashSet;
import java.util.LinkedHashMap;
import java.util.List;
import java.util.Map;
import java.util.Set;
import javax.lang.model.element.Element;
import javax.lang.model.element.ElementKind;
import javax.lang.model.element.Modifier;
import javax.lang.model.element.VariableElement;
import javax.lang.model.type.ArrayType;
import javax.lang.model.type.TypeKind;
import javax.lang.model.type.TypeMirror;
import javax.tools.JavaCompiler;
import javax.tools.StandardJavaFileManager;
import javax.tools.ToolProvider;

/**
 * What the compiler's own tree of the program shows of the rules of LANGUAGE.md, stricter than
 * they are where the program needs less (NOTES.md). Rule 1 is FaceTest's; that no call throws (7)
 * is not seen here: that rests on reading and on the runs.
 */
public final class RulesTest extends TreePathScanner<Void, Void> {
    private static final Check check = new Check();
    private static final int LINES = 60, PARAMETERS = 7, DEPTH = 8, CLASSES = 12, FIELDS = 20;
    /** The library's methods that the program uses: all of rule 4; a new one is looked up there. */
    private static final Set<String> LIBRARY = Set.of("java.lang.String.length",
            "java.lang.String.charAt", "java.lang.Integer.bitCount", "java.lang.Math.max",
            "java.lang.Math.min", "java.lang.System.arraycopy");
    private static final Set<Tree.Kind> COMPARISONS = Set.of(Tree.Kind.LESS_THAN,
            Tree.Kind.LESS_THAN_EQUAL, Tree.Kind.GREATER_THAN, Tree.Kind.GREATER_THAN_EQUAL);

    private final Trees trees;
    private final CompilationUnitTree unit;
    private final Map<Element, Set<Element>> calls = new LinkedHashMap<>();
    private Element method;
    private int classes;

    private RulesTest(Trees trees, CompilationUnitTree unit) {
        this.trees = trees;
        this.unit = unit;
    }

    public static void main(String[] args) throws IOException {
        Path source = Path.of(args.length > 0 ? args[0] : "src/main/java/ProphetAudit.java");
        JavaCompiler compiler = ToolProvider.getSystemJavaCompiler();
        try (StandardJavaFileManager files = compiler.getStandardFileManager(null, null, null)) {
            JavacTask task = (JavacTask) compiler.getTask(null, files, null,
                    List.of("-proc:none"), null, files.getJavaFileObjects(source));
            CompilationUnitTree unit = task.parse().iterator().next();
            task.analyze();
            new RulesTest(Trees.instance(task), unit).all();
        }
        check.end();
    }

    private void all() {
        check.holds("no package line", unit.getPackageName() == null);
        check.same("one class beside those inside it", unit.getTypeDecls().size(), 1);
        scan(unit, null);
        check.holds("11: some twelve classes", classes <= CLASSES);
        Map<Element, Integer> depths = new HashMap<>();
        for (Element m : calls.keySet()) {
            int depth = depth(m, depths, new HashSet<>());
            check.holds("11: eight deep at most: " + m + " goes " + depth, depth <= DEPTH);
        }
        check.holds("calls were seen", calls.size() > 30);
    }

    /** How many calls stand open at once from this one on; stricter than rule 8: no recursion. */
    private int depth(Element of, Map<Element, Integer> known, Set<Element> open) {
        if (known.containsKey(of)) {
            return known.get(of);
        }
        open.add(of);
        int below = 0;
        for (Element called : calls.getOrDefault(of, Set.of())) {
            boolean again = open.contains(called);
            check.holds("8: no recursion: " + of + " to " + called, !again);
            below = Math.max(below, again ? DEPTH : depth(called, known, open));
        }
        open.remove(of);
        known.put(of, below + 1);
        return below + 1;
    }

    private String at(Tree tree) {
        SourcePositions places = trees.getSourcePositions();
        return " (line " + unit.getLineMap().getLineNumber(places.getStartPosition(unit, tree)) + ")";
    }

    private Element elementOf(Tree tree) {
        return trees.getElement(TreePath.getPath(unit, tree));
    }

    private TypeMirror typeOf(Tree tree) {
        return trees.getTypeMirror(TreePath.getPath(unit, tree));
    }

    private static boolean isOwn(String type) {
        return type.equals("ProphetAudit") || type.startsWith("ProphetAudit.");
    }

    private void refuse(String rule, Tree tree) {
        check.holds(rule + at(tree), false);
    }

    @Override
    public Void visitClass(ClassTree tree, Void none) {
        classes++;
        Element made = elementOf(tree);
        check.holds("2: no class in a method" + at(tree), method == null);
        check.holds("2: static inside" + at(tree),
                classes == 1 || made.getModifiers().contains(Modifier.STATIC));
        int fields = 0;
        for (Tree member : tree.getMembers()) {
            if (member instanceof VariableTree v
                    && !v.getModifiers().getFlags().contains(Modifier.STATIC)) {
                fields++;
            }
            check.holds("5: no initialiser block" + at(tree), !(member instanceof BlockTree));
        }
        check.holds("11: some twenty fields" + at(tree), fields <= FIELDS);
        return super.visitClass(tree, none);
    }

    @Override
    public Void visitMethod(MethodTree tree, Void none) {
        Element outer = method;
        method = elementOf(tree);
        calls.put(method, new HashSet<>());
        check.holds("11: seven parameters" + at(tree), tree.getParameters().size() <= PARAMETERS);
        LineMap lines = unit.getLineMap();
        SourcePositions places = trees.getSourcePositions();
        long first = lines.getLineNumber(places.getStartPosition(unit, tree));
        long last = first;
        if (!isMadeUp(tree)) {
            last = lines.getLineNumber(places.getEndPosition(unit, tree));
        }
        check.holds("11: some sixty lines" + at(tree), last - first < LINES);
        super.visitMethod(tree, none);
        method = outer;
        return null;
    }

    /** Whether it is the constructor that the compiler puts where none is written. */
    private boolean isMadeUp(MethodTree tree) {
        return trees.getSourcePositions().getEndPosition(unit, tree) < 0;
    }

    @Override
    public Void visitVariable(VariableTree tree, Void none) {
        Element made = elementOf(tree);
        check.holds("3: the type of " + tree.getName() + at(tree), mayBe(made.asType()));
        if (made.getKind() == ElementKind.FIELD && made.getModifiers().contains(Modifier.STATIC)) {
            check.holds("5: a final constant" + at(tree),
                    made.getModifiers().contains(Modifier.FINAL)
                            && made instanceof VariableElement v && v.getConstantValue() != null);
        }
        return super.visitVariable(tree, none);
    }

    private static boolean mayBe(TypeMirror type) {
        if (type instanceof ArrayType array) {
            return array.getComponentType().getKind() != TypeKind.ARRAY
                    && mayBe(array.getComponentType());
        }
        return type.getKind().isPrimitive() && type.getKind() != TypeKind.DOUBLE
                && type.getKind() != TypeKind.FLOAT
                || isOwn(type.toString()) || type.toString().equals("java.lang.String");
    }

    @Override
    public Void visitMethodInvocation(MethodInvocationTree tree, Void none) {
        Element called = elementOf(tree.getMethodSelect());
        String owner = called.getEnclosingElement().toString();
        if (isOwn(owner)) {
            if (method != null && called.getKind() == ElementKind.METHOD) {
                calls.get(method).add(called);
            }
        } else if (called.getKind() == ElementKind.METHOD) {
            String name = owner + "." + called.getSimpleName();
            check.holds("4: " + name + at(tree), LIBRARY.contains(name));
        }
        return super.visitMethodInvocation(tree, none);
    }

    @Override
    public Void visitNewClass(NewClassTree tree, Void none) {
        check.holds("2: no anonymous class" + at(tree), tree.getClassBody() == null);
        check.holds("4: an own class" + at(tree), isOwn(typeOf(tree).toString()));
        madeOnce(tree);
        return super.visitNewClass(tree, none);
    }

    @Override
    public Void visitNewArray(NewArrayTree tree, Void none) {
        madeOnce(tree);
        return super.visitNewArray(tree, none);
    }

    /** Stricter than rule 12: calls make nothing at all, so that one room is enough for all. */
    private void madeOnce(Tree tree) {
        check.holds("12: made in a constructor" + at(tree),
                method == null || method.getKind() == ElementKind.CONSTRUCTOR);
    }

    @Override
    public Void visitBinary(BinaryTree tree, Void none) {
        check.holds("10: no text is joined" + at(tree), typeOf(tree).getKind().isPrimitive());
        if (tree.getKind() == Tree.Kind.EQUAL_TO || tree.getKind() == Tree.Kind.NOT_EQUAL_TO) {
            check.holds("6: numbers are compared" + at(tree),
                    typeOf(tree.getLeftOperand()).getKind().isPrimitive());
        }
        return super.visitBinary(tree, none);
    }

    @Override
    public Void visitTypeCast(TypeCastTree tree, Void none) {
        check.holds("6: a cast of numbers" + at(tree), typeOf(tree.getType()).getKind().isPrimitive());
        return super.visitTypeCast(tree, none);
    }

    @Override
    public Void visitForLoop(ForLoopTree tree, Void none) {
        loop(tree, tree.getCondition());
        return super.visitForLoop(tree, none);
    }

    @Override
    public Void visitWhileLoop(WhileLoopTree tree, Void none) {
        loop(tree, tree.getCondition());
        return super.visitWhileLoop(tree, none);
    }

    @Override
    public Void visitDoWhileLoop(DoWhileLoopTree tree, Void none) {
        loop(tree, tree.getCondition());
        return super.visitDoWhileLoop(tree, none);
    }

    /** Rule 9: a counter that must be within a bound steps in the loop, and only steps. */
    private void loop(Tree loop, ExpressionTree condition) {
        Set<String> bounded = new HashSet<>();
        needed(condition, bounded);
        Set<String> stepped = new HashSet<>();
        Set<String> set = new HashSet<>();
        new TreeScanner<Void, Void>() {
            @Override
            public Void visitUnary(UnaryTree tree, Void none) {
                if (tree.getKind().name().endsWith("CREMENT")) {
                    stepped.add(tree.getExpression().toString());
                }
                return super.visitUnary(tree, none);
            }

            @Override
            public Void visitAssignment(AssignmentTree tree, Void none) {
                set.add(tree.getVariable().toString());
                return super.visitAssignment(tree, none);
            }

            @Override
            public Void visitCompoundAssignment(CompoundAssignmentTree tree, Void none) {
                set.add(tree.getVariable().toString());
                return super.visitCompoundAssignment(tree, none);
            }
        }.scan(loop instanceof ForLoopTree f
                ? List.of(f.getStatement(), f.getUpdate().get(0))
                : List.of(loop), null);
        bounded.retainAll(stepped);
        bounded.removeAll(set);
        check.holds("9: the loop's end is seen" + at(loop), !bounded.isEmpty());
    }

    /** The variables that each round needs to be on one side of something. */
    private static void needed(ExpressionTree condition, Set<String> found) {
        Tree inner = condition instanceof ParenthesizedTree p
                ? p.getExpression() : condition;
        if (inner instanceof BinaryTree both) {
            if (both.getKind() == Tree.Kind.CONDITIONAL_AND) {
                needed(both.getLeftOperand(), found);
                needed(both.getRightOperand(), found);
            } else if (COMPARISONS.contains(both.getKind())
                    && both.getLeftOperand() instanceof IdentifierTree counter) {
                found.add(counter.toString());
            }
        }
    }

    @Override
    public Void visitLambdaExpression(LambdaExpressionTree tree, Void none) {
        refuse("2: no lambda", tree);
        return null;
    }

    @Override
    public Void visitMemberReference(MemberReferenceTree tree, Void none) {
        refuse("2: no method reference", tree);
        return null;
    }

    @Override
    public Void visitTry(TryTree tree, Void none) {
        refuse("6: no try", tree);
        return null;
    }

    @Override
    public Void visitThrow(ThrowTree tree, Void none) {
        refuse("6: no throw", tree);
        return null;
    }

    @Override
    public Void visitSynchronized(SynchronizedTree tree, Void none) {
        refuse("6: no synchronized", tree);
        return null;
    }

    @Override
    public Void visitAssert(AssertTree tree, Void none) {
        refuse("6: no assert", tree);
        return null;
    }
}
