import com.sun.source.tree.AssertTree;
import com.sun.source.tree.BinaryTree;
import com.sun.source.tree.BlockTree;
import com.sun.source.tree.CatchTree;
import com.sun.source.tree.ClassTree;
import com.sun.source.tree.CompilationUnitTree;
import com.sun.source.tree.CompoundAssignmentTree;
import com.sun.source.tree.DoWhileLoopTree;
import com.sun.source.tree.EnhancedForLoopTree;
import com.sun.source.tree.ExpressionTree;
import com.sun.source.tree.ForLoopTree;
import com.sun.source.tree.ImportTree;
import com.sun.source.tree.LambdaExpressionTree;
import com.sun.source.tree.LiteralTree;
import com.sun.source.tree.MemberReferenceTree;
import com.sun.source.tree.MethodInvocationTree;
import com.sun.source.tree.MethodTree;
import com.sun.source.tree.NewArrayTree;
import com.sun.source.tree.NewClassTree;
import com.sun.source.tree.SynchronizedTree;
import com.sun.source.tree.ThrowTree;
import com.sun.source.tree.Tree;
import com.sun.source.tree.TryTree;
import com.sun.source.tree.TypeCastTree;
import com.sun.source.tree.VariableTree;
import com.sun.source.tree.WhileLoopTree;
import com.sun.source.util.JavacTask;
import com.sun.source.util.TreePath;
import com.sun.source.util.TreePathScanner;
import com.sun.source.util.Trees;
import java.util.List;
import java.util.Map;
import java.util.Set;
import java.util.TreeMap;
import java.util.TreeSet;
import javax.lang.model.element.Element;
import javax.lang.model.element.ElementKind;
import javax.lang.model.element.Modifier;
import javax.lang.model.type.TypeMirror;
import javax.tools.ToolProvider;

/**
 * The rules of ../shared/LANGUAGE.md that can be read off the text of the class. The class needs less than they leave it
 * (no class inside it, no list, no recursion, nothing caught): what it does not use is not let through here.
 */
public final class LanguageTest extends TreePathScanner<Void, Void> {
    private static final Set<String> TYPES = Set.of(
        "void", "int", "long", "boolean", "int[]", "long[]", "java.lang.String", "java.lang.StringBuilder", "Datesolo");
    private static final Set<String> CONSTANT_TYPES = Set.of("int", "long", "boolean", "java.lang.String");
    private static final Set<String> EXCEPTIONS = Set.of(
        "java.lang.IndexOutOfBoundsException", "java.lang.IllegalArgumentException", "java.lang.IllegalStateException");
    private static final Set<String> LIBRARY = Set.of(
        "java.lang.Math.floorDiv", "java.lang.Math.floorMod", "java.lang.Math.min", "java.lang.Math.max", "java.lang.Math.abs",
        "java.lang.Integer.compare", "java.lang.Long.compare", "java.lang.StringBuilder.append(char)",
        "java.lang.StringBuilder.append(java.lang.String)", "java.lang.StringBuilder.append(int)",
        "java.lang.StringBuilder.toString()", "java.lang.String.length", "java.lang.Object.<init>");
    private static final int MOST_PARAMETERS = 7;
    private static final int MOST_LINES = 60;
    private static final int MOST_FIELDS = 20;
    private static final int MOST_CALLS_DEEP = 8;

    private final Trees trees;
    private final CompilationUnitTree unit;
    private final Map<String, Set<String>> callsOf = new TreeMap<>();
    private final Set<String> circles = new TreeSet<>();
    private String method = "";
    private int loops = 0;
    private int classes = 0;
    private int fields = 0;

    private LanguageTest(Trees trees, CompilationUnitTree unit) {
        this.trees = trees;
        this.unit = unit;
    }

    public static void main(String[] args) throws Exception {
        JavacTask task = (JavacTask) ToolProvider.getSystemJavaCompiler().getTask(
            null, null, null, List.of("--release", "17", "-proc:none"), null, List.of(Compiled.source("Datesolo", Compiled.program())));
        CompilationUnitTree unit = task.parse().iterator().next();
        task.analyze();
        LanguageTest test = new LanguageTest(Trees.instance(task), unit);
        test.scan(unit, null);
        test.ends();
        Run.end();
    }

    private void ends() {
        Run.same("a package line", unit.getPackageName(), null);
        Run.same("classes", classes, 1);
        atMost("fields", fields, MOST_FIELDS);
        int deepest = 0;
        for (String name : callsOf.keySet()) {
            deepest = Math.max(deepest, depth(name, new TreeSet<>()));
        }
        atMost("calls deep", deepest, MOST_CALLS_DEEP);
        Run.same("methods that call themselves", circles, Set.of());
    }

    private int depth(String name, Set<String> open) {
        if (!callsOf.containsKey(name)) {
            return 0;
        }
        if (!open.add(name)) {
            circles.add(name);
            return 0;
        }
        int deepest = 0;
        for (String called : callsOf.get(name)) {
            deepest = Math.max(deepest, depth(called, open));
        }
        open.remove(name);
        return deepest + 1;
    }

    private static void atMost(String what, int number, int most) {
        Run.same("whether " + number + " " + what + " are at most " + most, number <= most, true);
    }

    private void none(String what, Tree tree) {
        Run.same(where(tree) + ": " + what, "there", "not there");
    }

    private void oneOf(String what, Tree tree, String name, Set<String> allowed) {
        Run.same(where(tree) + ": whether there may be " + what + " " + name, allowed.contains(name), true);
    }

    private String where(Tree tree) {
        return "line " + line(trees.getSourcePositions().getStartPosition(unit, tree));
    }

    private long line(long position) {
        return unit.getLineMap().getLineNumber(position);
    }

    private Element elementOf(Tree tree) {
        return trees.getElement(new TreePath(getCurrentPath(), tree));
    }

    private TypeMirror typeOf(Tree tree) {
        return trees.getTypeMirror(new TreePath(getCurrentPath(), tree));
    }

    // ---- rules 1, 2, 3, 5 and 11: classes, fields and methods

    @Override
    public Void visitImport(ImportTree tree, Void none) {
        none("an import", tree);
        return null;
    }

    @Override
    public Void visitClass(ClassTree tree, Void none) {
        classes++;
        for (Tree member : tree.getMembers()) {
            if (member instanceof BlockTree) {
                none("an initialiser block", member);
            }
        }
        return super.visitClass(tree, none);
    }

    @Override
    public Void visitVariable(VariableTree tree, Void none) {
        Element variable = trees.getElement(getCurrentPath());
        boolean isStatic = variable.getModifiers().contains(Modifier.STATIC);
        oneOf("a variable of", tree, variable.asType().toString(), isStatic ? CONSTANT_TYPES : TYPES);
        if (isStatic) {
            Run.same(where(tree) + ": a static field is final", variable.getModifiers().contains(Modifier.FINAL), true);
        } else if (variable.getKind() == ElementKind.FIELD) {
            fields++;
        }
        return super.visitVariable(tree, none);
    }

    @Override
    public Void visitMethod(MethodTree tree, Void none) {
        method = trees.getElement(getCurrentPath()).toString();
        callsOf.put(method, new TreeSet<>());
        atMost("parameters of " + method, tree.getParameters().size(), MOST_PARAMETERS);
        if (tree.getReturnType() != null) {
            oneOf("an answer of", tree, typeOf(tree.getReturnType()).toString(), TYPES);
        }
        long first = line(trees.getSourcePositions().getStartPosition(unit, tree));
        long last = line(trees.getSourcePositions().getEndPosition(unit, tree));
        atMost("lines of " + method, (int) (last - first) + 1, MOST_LINES);
        super.visitMethod(tree, none);
        method = "";
        return null;
    }

    // ---- rules 4, 7, 10 and 12: calls of the library, casts, texts, and what is made

    @Override
    public Void visitMethodInvocation(MethodInvocationTree tree, Void none) {
        Element called = elementOf(tree.getMethodSelect());
        String owner = called.getEnclosingElement().toString();
        if (owner.equals("Datesolo")) {
            callsOf.get(method).add(called.toString());
        } else {
            String name = owner + "." + called.getSimpleName();
            boolean byParameters = owner.equals("java.lang.StringBuilder");
            oneOf("a call of", tree, byParameters ? owner + "." + called : name, LIBRARY);
        }
        return super.visitMethodInvocation(tree, none);
    }

    @Override
    public Void visitTypeCast(TypeCastTree tree, Void none) {
        Run.same(where(tree) + ": a cast is to a number", typeOf(tree.getType()).getKind().isPrimitive(), true);
        return super.visitTypeCast(tree, none);
    }

    @Override
    public Void visitBinary(BinaryTree tree, Void none) {
        boolean isOfTexts = isText(tree.getLeftOperand()) || isText(tree.getRightOperand());
        Run.same(where(tree) + ": + or == between texts", isOfTexts, false);
        return super.visitBinary(tree, none);
    }

    @Override
    public Void visitCompoundAssignment(CompoundAssignmentTree tree, Void none) {
        Run.same(where(tree) + ": += of texts", isText(tree.getVariable()), false);
        return super.visitCompoundAssignment(tree, none);
    }

    private boolean isText(ExpressionTree tree) {
        return typeOf(tree).toString().equals("java.lang.String");
    }

    @Override
    public Void visitLiteral(LiteralTree tree, Void none) {
        String text = String.valueOf(tree.getValue());
        Run.same(where(tree) + ": signs 1 to 127", text.chars().allMatch(sign -> sign >= 1 && sign <= 127), true);
        return null;
    }

    @Override
    public Void visitNewArray(NewArrayTree tree, Void none) {
        Run.same(where(tree) + ": a row is made for good, in a field", method, "");
        return super.visitNewArray(tree, none);
    }

    @Override
    public Void visitNewClass(NewClassTree tree, Void none) {
        boolean isThrown = getCurrentPath().getParentPath().getLeaf() instanceof ThrowTree;
        oneOf("a new", tree, typeOf(tree).toString(), isThrown ? EXCEPTIONS : Set.of("java.lang.StringBuilder"));
        Run.same(where(tree) + ": an object made in a loop", loops, 0);
        return super.visitNewClass(tree, none);
    }

    // ---- rule 6: exceptions

    @Override
    public Void visitThrow(ThrowTree tree, Void none) {
        boolean isNew = tree.getExpression() instanceof NewClassTree;
        Run.same(where(tree) + ": a new exception is thrown", isNew, true);
        if (isNew) {
            List<? extends ExpressionTree> told = ((NewClassTree) tree.getExpression()).getArguments();
            Run.same(where(tree) + ": it tells a written text", told.stream().allMatch(LiteralTree.class::isInstance), true);
        }
        Run.same(where(tree) + ": a throw in a constructor", method.startsWith("Datesolo("), false);
        return super.visitThrow(tree, none);
    }

    @Override
    public Void visitTry(TryTree tree, Void none) {
        none("a try", tree);
        return null;
    }

    @Override
    public Void visitCatch(CatchTree tree, Void none) {
        none("a catch", tree);
        return null;
    }

    @Override
    public Void visitSynchronized(SynchronizedTree tree, Void none) {
        none("synchronized", tree);
        return null;
    }

    @Override
    public Void visitAssert(AssertTree tree, Void none) {
        none("an assert", tree);
        return null;
    }

    @Override
    public Void visitLambdaExpression(LambdaExpressionTree tree, Void none) {
        none("a lambda", tree);
        return null;
    }

    @Override
    public Void visitMemberReference(MemberReferenceTree tree, Void none) {
        none("a method reference", tree);
        return null;
    }

    // ---- rule 9: loops that end

    @Override
    public Void visitForLoop(ForLoopTree tree, Void none) {
        return inLoop(tree, tree.getCondition(), () -> super.visitForLoop(tree, none));
    }

    @Override
    public Void visitWhileLoop(WhileLoopTree tree, Void none) {
        return inLoop(tree, tree.getCondition(), () -> super.visitWhileLoop(tree, none));
    }

    @Override
    public Void visitDoWhileLoop(DoWhileLoopTree tree, Void none) {
        return inLoop(tree, tree.getCondition(), () -> super.visitDoWhileLoop(tree, none));
    }

    @Override
    public Void visitEnhancedForLoop(EnhancedForLoopTree tree, Void none) {
        loops++;
        super.visitEnhancedForLoop(tree, none);
        loops--;
        return null;
    }

    private Void inLoop(Tree tree, ExpressionTree condition, Runnable inside) {
        boolean compares = condition != null && condition.toString().matches(".*[<>].*");
        Run.same(where(tree) + ": a loop compares a counter with its bound", compares, true);
        loops++;
        inside.run();
        loops--;
        return null;
    }
}
