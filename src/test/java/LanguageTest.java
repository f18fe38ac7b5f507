import com.sun.source.tree.AssertTree;
import com.sun.source.tree.BinaryTree;
import com.sun.source.tree.BlockTree;
import com.sun.source.tree.CatchTree;
import com.sun.source.tree.ClassTree;
import com.sun.source.tree.CompilationUnitTree;
import com.sun.source.tree.ExpressionTree;
import com.sun.source.tree.ForLoopTree;
import com.sun.source.tree.IdentifierTree;
import com.sun.source.tree.LambdaExpressionTree;
import com.sun.source.tree.LineMap;
import com.sun.source.tree.MemberReferenceTree;
import com.sun.source.tree.MethodInvocationTree;
import com.sun.source.tree.MethodTree;
import com.sun.source.tree.NewClassTree;
import com.sun.source.tree.SynchronizedTree;
import com.sun.source.tree.ThrowTree;
import com.sun.source.tree.Tree;
import com.sun.source.tree.TryTree;
import com.sun.source.tree.VariableTree;
import com.sun.source.tree.WhileLoopTree;
import com.sun.source.util.JavacTask;
import com.sun.source.util.TreePathScanner;
import com.sun.source.util.Trees;
import java.io.IOException;
import java.nio.file.Path;
import java.util.Arrays;
import java.util.HashMap;
import java.util.HashSet;
import java.util.LinkedHashMap;
import java.util.LinkedHashSet;
import java.util.Map;
import java.util.Set;
import javax.lang.model.element.Element;
import javax.lang.model.element.Modifier;
import javax.lang.model.type.TypeMirror;
import javax.tools.JavaCompiler;
import javax.tools.StandardJavaFileManager;
import javax.tools.ToolProvider;

/** The rules of LANGUAGE.md that can be seen in the source, by their numbers; FaceTest has rule 1. */
public final class LanguageTest extends TreePathScanner<Void, Void> {
    private static final Path PROGRAM = Path.of("src/main/java/StoryMachine.java");
    private static final int MOST_CLASSES = 12;
    private static final int MOST_FIELDS = 20;
    private static final int MOST_PARAMETERS = 7;
    private static final int MOST_LINES = 60;
    private static final int MOST_DEEP = 8;
    private static final Set<String> EXCEPTIONS = new HashSet<>(Arrays.asList(
            "IllegalStateException", "IllegalArgumentException", "IndexOutOfBoundsException",
            "ArithmeticException", "UnsupportedOperationException", "NoSuchElementException",
            "RuntimeException"));
    private static final Set<String> CONSTANTS = new HashSet<>(Arrays.asList(
            "int", "long", "boolean", "char", "java.lang.String", "int[]", "long[]", "char[]", "byte[]"));
    private static final Set<String> FIELDS = new HashSet<>(Arrays.asList(
            "int", "long", "short", "byte", "char", "boolean", "int[]", "long[]", "boolean[]", "byte[]",
            "java.lang.String"));
    /** What the program uses of the library that rule 4 lists. */
    private static final Set<String> LIBRARY = new HashSet<>(Arrays.asList(
            "java.lang.String.charAt(int)", "java.lang.String.indexOf(int)", "java.lang.Math.abs(int)",
            "java.lang.Math.min(int,int)",
            "java.lang.System.arraycopy(java.lang.Object,int,java.lang.Object,int,int)"));

    private final Trees trees;
    private final CompilationUnitTree unit;
    private final Map<Element, Set<Element>> calls = new LinkedHashMap<>();
    private final Map<Element, Integer> depths = new HashMap<>();
    private int classes;
    /** The method that is looked at, or its class outside of methods. */
    private Element method;
    private boolean inConstructor;
    private boolean throwsHere;
    private boolean triesHere;

    private LanguageTest(Trees trees, CompilationUnitTree unit) {
        this.trees = trees;
        this.unit = unit;
    }

    public static void main(String[] args) throws IOException {
        JavaCompiler compiler = ToolProvider.getSystemJavaCompiler();
        try (StandardJavaFileManager files = compiler.getStandardFileManager(null, null, null)) {
            JavacTask task = (JavacTask) compiler.getTask(null, files, null,
                    Arrays.asList("-proc:none"), null, files.getJavaFileObjects(PROGRAM));
            CompilationUnitTree unit = task.parse().iterator().next();
            task.analyze();
            new LanguageTest(Trees.instance(task), unit).holds();
        }
        Check.end();
    }

    private void holds() {
        Check.isTrue("no package line", unit.getPackageName() == null);
        Check.same("4: no imports", unit.getImports().size(), 0);
        scan(unit, null);
        Check.isTrue("11: classes, " + classes, classes <= MOST_CLASSES);
        for (Element caller : calls.keySet()) {
            int depth = depthOf(caller, new LinkedHashSet<>());
            Check.isTrue("11: " + caller + " goes " + depth + " deep", depth <= MOST_DEEP);
        }
    }

    /** How many methods of the program stand open at most, with this one and what it calls. */
    private int depthOf(Element caller, Set<Element> open) {
        if (!open.add(caller)) {
            Check.isTrue("8: no recursion, " + open, false);
            return 0;
        }
        if (!depths.containsKey(caller)) {
            int deepest = 0;
            for (Element called : calls.getOrDefault(caller, Set.of())) {
                deepest = Math.max(deepest, depthOf(called, open));
            }
            depths.put(caller, deepest + 1);
        }
        open.remove(caller);
        return depths.get(caller);
    }

    private Element elementOf(Tree tree) {
        return trees.getElement(trees.getPath(unit, tree));
    }

    private TypeMirror typeOf(Tree tree) {
        return trees.getTypeMirror(trees.getPath(unit, tree));
    }

    private void never(String what, Tree tree) {
        Check.isTrue(what + ": " + tree, false);
    }

    @Override
    public Void visitClass(ClassTree tree, Void none) {
        classes++;
        Element outer = method;
        method = elementOf(tree);
        calls.put(method, new LinkedHashSet<>());
        int fields = 0;
        for (Tree member : tree.getMembers()) {
            if (member instanceof VariableTree) {
                fields += field((VariableTree) member);
            } else if (member instanceof BlockTree && ((BlockTree) member).isStatic()) {
                never("5: a static block", member);
            }
        }
        Check.isTrue("11: fields of " + tree.getSimpleName() + ", " + fields, fields <= MOST_FIELDS);
        super.visitClass(tree, none);
        method = outer;
        return null;
    }

    /** Answers 1 for a field that counts, 0 for a constant. */
    private int field(VariableTree tree) {
        Element element = elementOf(tree);
        String type = element.asType().toString();
        if (element.getModifiers().contains(Modifier.STATIC)) {
            Check.isTrue("5: final, " + tree, element.getModifiers().contains(Modifier.FINAL));
            Check.isTrue("5: a constant, " + tree, CONSTANTS.contains(type));
            return 0;
        }
        Check.isTrue("3: a type, " + tree, FIELDS.contains(type) || type.startsWith("StoryMachine."));
        return 1;
    }

    @Override
    public Void visitMethod(MethodTree tree, Void none) {
        Element outer = method;
        method = elementOf(tree);
        calls.put(method, new LinkedHashSet<>());
        inConstructor = tree.getReturnType() == null;
        throwsHere = false;
        triesHere = false;
        Check.isTrue("11: parameters of " + method, tree.getParameters().size() <= MOST_PARAMETERS);
        Check.isTrue("11: lines of " + method, linesOf(tree) <= MOST_LINES);
        super.visitMethod(tree, none);
        Check.isTrue("6: try and throw in " + method, !(throwsHere && triesHere));
        method = outer;
        return null;
    }

    private long linesOf(Tree tree) {
        LineMap map = unit.getLineMap();
        long first = trees.getSourcePositions().getStartPosition(unit, tree);
        long last = trees.getSourcePositions().getEndPosition(unit, tree);
        return first < 0 || last < 0 ? 0 : map.getLineNumber(last) - map.getLineNumber(first) + 1;
    }

    @Override
    public Void visitMethodInvocation(MethodInvocationTree tree, Void none) {
        Element called = elementOf(tree.getMethodSelect());
        String owner = called.getEnclosingElement().toString();
        if (owner.equals("StoryMachine") || owner.startsWith("StoryMachine.")) {
            calls.get(method).add(called);
        } else if (!called.getSimpleName().contentEquals("<init>")) {
            Check.isTrue("4: " + owner + "." + called, LIBRARY.contains(owner + "." + called));
        }
        return super.visitMethodInvocation(tree, none);
    }

    @Override
    public Void visitNewClass(NewClassTree tree, Void none) {
        String type = typeOf(tree).toString();
        Check.isTrue("4: new " + type, type.startsWith("StoryMachine.")
                || type.startsWith("java.lang.") && EXCEPTIONS.contains(type.substring("java.lang.".length())));
        if (type.startsWith("StoryMachine.")) {
            calls.get(method).add(elementOf(tree));
        }
        return super.visitNewClass(tree, none);
    }

    @Override
    public Void visitThrow(ThrowTree tree, Void none) {
        throwsHere = true;
        Check.isTrue("6: no throw in a constructor, " + tree, !inConstructor);
        ExpressionTree thrown = tree.getExpression();
        boolean plain = thrown instanceof NewClassTree
                && EXCEPTIONS.contains(((NewClassTree) thrown).getIdentifier().toString())
                && ((NewClassTree) thrown).getArguments().isEmpty();
        Check.isTrue("6: " + tree, plain);
        return super.visitThrow(tree, none);
    }

    @Override
    public Void visitTry(TryTree tree, Void none) {
        triesHere = true;
        Check.isTrue("6: no finally", tree.getFinallyBlock() == null);
        Check.isTrue("6: no resources", tree.getResources().isEmpty());
        return super.visitTry(tree, none);
    }

    @Override
    public Void visitCatch(CatchTree tree, Void none) {
        String name = tree.getParameter().getName().toString();
        Check.isTrue("6: " + tree, EXCEPTIONS.contains(tree.getParameter().getType().toString()));
        new TreePathScanner<Void, Void>() {
            @Override
            public Void visitIdentifier(IdentifierTree used, Void nothing) {
                Check.isTrue("6: the exception is left alone, " + tree, !used.getName().contentEquals(name));
                return null;
            }
        }.scan(trees.getPath(unit, tree.getBlock()), null);
        return super.visitCatch(tree, none);
    }

    @Override
    public Void visitForLoop(ForLoopTree tree, Void none) {
        Check.isTrue("9: an end, " + tree, tree.getCondition() != null);
        return super.visitForLoop(tree, none);
    }

    @Override
    public Void visitWhileLoop(WhileLoopTree tree, Void none) {
        Check.isTrue("9: an end, " + tree, !tree.getCondition().toString().equals("(true)"));
        return super.visitWhileLoop(tree, none);
    }

    @Override
    public Void visitBinary(BinaryTree tree, Void none) {
        Check.isTrue("10: no joining of texts by +, " + tree,
                !typeOf(tree).toString().equals("java.lang.String"));
        return super.visitBinary(tree, none);
    }

    @Override
    public Void visitLambdaExpression(LambdaExpressionTree tree, Void none) {
        never("2: a lambda", tree);
        return null;
    }

    @Override
    public Void visitMemberReference(MemberReferenceTree tree, Void none) {
        never("2: a method reference", tree);
        return null;
    }

    @Override
    public Void visitSynchronized(SynchronizedTree tree, Void none) {
        never("6: synchronized", tree);
        return null;
    }

    @Override
    public Void visitAssert(AssertTree tree, Void none) {
        never("6: assert", tree);
        return null;
    }
}
