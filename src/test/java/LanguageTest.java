import com.sun.source.tree.ArrayTypeTree;
import com.sun.source.tree.AssertTree;
import com.sun.source.tree.BinaryTree;
import com.sun.source.tree.BlockTree;
import com.sun.source.tree.ClassTree;
import com.sun.source.tree.CompilationUnitTree;
import com.sun.source.tree.CompoundAssignmentTree;
import com.sun.source.tree.DoWhileLoopTree;
import com.sun.source.tree.ExpressionTree;
import com.sun.source.tree.ForLoopTree;
import com.sun.source.tree.InstanceOfTree;
import com.sun.source.tree.LambdaExpressionTree;
import com.sun.source.tree.LiteralTree;
import com.sun.source.tree.MemberReferenceTree;
import com.sun.source.tree.MethodInvocationTree;
import com.sun.source.tree.MethodTree;
import com.sun.source.tree.NewArrayTree;
import com.sun.source.tree.NewClassTree;
import com.sun.source.tree.ParenthesizedTree;
import com.sun.source.tree.PrimitiveTypeTree;
import com.sun.source.tree.SynchronizedTree;
import com.sun.source.tree.ThrowTree;
import com.sun.source.tree.Tree;
import com.sun.source.tree.TryTree;
import com.sun.source.tree.TypeCastTree;
import com.sun.source.tree.VariableTree;
import com.sun.source.tree.WhileLoopTree;
import com.sun.source.util.JavacTask;
import com.sun.source.util.TreePath;
import com.sun.source.util.TreePathScanner;
import com.sun.source.util.Trees;
import java.nio.file.Path;
import java.util.ArrayList;
import java.util.HashMap;
import java.util.HashSet;
import java.util.List;
import java.util.Map;
import java.util.Set;
import javax.lang.model.element.Element;
import javax.lang.model.element.Modifier;
import javax.lang.model.element.TypeElement;
import javax.tools.JavaCompiler;
import javax.tools.StandardJavaFileManager;
import javax.tools.ToolProvider;

/**
 * The rules of LANGUAGE.md that can be read off the program as the compiler reads it. The program uses less than they
 * leave; where a rule needs a reader's judgement (that an index is looked at before it is used), the test asks for a
 * narrower thing that can be seen.
 */
public final class LanguageTest {
    private static final Path PROGRAM = Path.of("src/main/java/DependentReplay.java");
    private static final Set<String> LIBRARY = Set.of(
        "java.lang.System.arraycopy", "java.util.Arrays.fill", "java.util.Arrays.copyOf", "java.util.Arrays.copyOfRange",
        "java.lang.Long.bitCount", "java.lang.Integer.bitCount", "java.lang.Math.abs", "java.lang.Math.max", "java.lang.Math.min");
    private static final Set<String> TYPES_OF_CONSTANTS = Set.of("int", "long", "boolean", "char", "String");
    private static final int PARAMETERS = 7, LINES = 60, CALLS_DEEP = 8, CLASSES = 12, FIELDS = 20;

    public static void main(String[] arguments) throws Exception {
        JavaCompiler compiler = ToolProvider.getSystemJavaCompiler();
        try (StandardJavaFileManager files = compiler.getStandardFileManager(null, null, null)) {
            JavacTask task = (JavacTask) compiler.getTask(null, files, null, List.of("-proc:none"), null, files.getJavaFileObjects(PROGRAM));
            CompilationUnitTree program = task.parse().iterator().next();
            task.analyze();
            Rules rules = new Rules(Trees.instance(task), program);
            rules.scan(program, null);
            rules.wholeProgram();
        }
        Check.end();
    }

    private static final class Rules extends TreePathScanner<Void, Void> {
        private final Trees trees;
        private final CompilationUnitTree program;
        private final Map<Element, Set<Element>> callsOf = new HashMap<>();
        private final Map<Element, Integer> levelsBelow = new HashMap<>();
        private int classes;

        Rules(Trees trees, CompilationUnitTree program) {
            this.trees = trees;
            this.program = program;
        }

        private void rule(int number, String what, Tree at, boolean holds) {
            long line = program.getLineMap().getLineNumber(trees.getSourcePositions().getStartPosition(program, at));
            Check.due("LANGUAGE.md " + number + ", line " + line + ": " + what, holds ? 1 : 0, 1);
        }

        private void never(int number, String what, Tree at) {
            rule(number, what + " is not allowed", at, false);
        }

        void wholeProgram() {
            Check.due("LANGUAGE.md 1: the package", program.getPackageName() == null ? 0 : 1, 0);
            Check.due("LANGUAGE.md 11: " + classes + " classes", classes <= CLASSES ? 1 : 0, 1);
            for (Element method : callsOf.keySet()) {
                int deep = callsDeep(method, new HashSet<>());
                Check.due("LANGUAGE.md 11: " + method + " goes " + deep + " calls deep", deep <= CALLS_DEEP ? 1 : 0, 1);
            }
        }

        /** How many methods stand open at once, this one with them; far too many for one that calls itself. */
        private int callsDeep(Element method, Set<Element> open) {
            if (levelsBelow.containsKey(method)) {
                return levelsBelow.get(method);
            }
            if (!open.add(method)) {
                return CALLS_DEEP + 1;
            }
            int below = 0;
            for (Element called : callsOf.getOrDefault(method, Set.of())) {
                below = Math.max(below, callsDeep(called, open));
            }
            open.remove(method);
            levelsBelow.put(method, below + 1);
            return below + 1;
        }

        private Element element(TreePath path) {
            return trees.getElement(path);
        }

        private boolean isOwn(Element element) {
            Element outermost = element;
            while (outermost.getEnclosingElement() instanceof TypeElement) {
                outermost = outermost.getEnclosingElement();
            }
            return outermost.getSimpleName().contentEquals("DependentReplay");
        }

        private <T extends Tree> T enclosing(Class<T> kind) {
            TreePath path = getCurrentPath().getParentPath();
            while (path != null && !kind.isInstance(path.getLeaf())) {
                path = path.getParentPath();
            }
            return path == null ? null : kind.cast(path.getLeaf());
        }

        private Element openMethod() {
            TreePath path = getCurrentPath();
            while (path != null && !(path.getLeaf() instanceof MethodTree)) {
                path = path.getParentPath();
            }
            return path == null ? null : element(path);
        }

        @Override
        public Void visitClass(ClassTree tree, Void none) {
            classes++;
            Tree parent = getCurrentPath().getParentPath().getLeaf();
            boolean isOutermost = parent instanceof CompilationUnitTree;
            rule(2, "a class is inside a class", tree, isOutermost || parent instanceof ClassTree);
            rule(2, "a class inside is static", tree, isOutermost || tree.getModifiers().getFlags().contains(Modifier.STATIC));
            rule(1, "a class inside is private or package-visible", tree,
                isOutermost || !tree.getModifiers().getFlags().contains(Modifier.PUBLIC));
            int fields = 0;
            for (Tree member : tree.getMembers()) {
                if (member instanceof VariableTree field && !isStatic(field)) {
                    fields++;
                }
                rule(5, "no initialiser block", member, !(member instanceof BlockTree));
            }
            rule(11, fields + " fields", tree, fields <= FIELDS);
            return super.visitClass(tree, none);
        }

        private static boolean isStatic(VariableTree field) {
            return field.getModifiers().getFlags().contains(Modifier.STATIC);
        }

        @Override
        public Void visitVariable(VariableTree tree, Void none) {
            if (getCurrentPath().getParentPath().getLeaf() instanceof ClassTree && isStatic(tree)) {
                rule(5, tree.getName() + " is final", tree, tree.getModifiers().getFlags().contains(Modifier.FINAL));
                rule(5, tree.getName() + " is a constant", tree, TYPES_OF_CONSTANTS.contains(tree.getType().toString()));
            }
            checkType(tree.getType());
            return super.visitVariable(tree, none);
        }

        /** Numbers, booleans, own classes, and arrays of one dimension of these. */
        private void checkType(Tree type) {
            Tree part = type instanceof ArrayTypeTree array ? array.getType() : type;
            boolean isKnown = part instanceof PrimitiveTypeTree || isOwn(element(new TreePath(getCurrentPath(), part)));
            rule(3, "the type " + type, type, isKnown);
        }

        @Override
        public Void visitMethod(MethodTree tree, Void none) {
            callsOf.computeIfAbsent(element(getCurrentPath()), method -> new HashSet<>());
            long from = trees.getSourcePositions().getStartPosition(program, tree);
            long to = trees.getSourcePositions().getEndPosition(program, tree);
            long lines = program.getLineMap().getLineNumber(Math.max(from, to)) - program.getLineMap().getLineNumber(from) + 1;
            rule(11, tree.getName() + " has " + lines + " lines", tree, lines <= LINES);
            rule(11, tree.getName() + " has few parameters", tree, tree.getParameters().size() <= PARAMETERS);
            rule(6, tree.getName() + " declares no exception", tree, tree.getThrows().isEmpty());
            return super.visitMethod(tree, none);
        }

        @Override
        public Void visitMethodInvocation(MethodInvocationTree tree, Void none) {
            Element called = element(getCurrentPath());
            if (isOwn(called)) {
                if (openMethod() != null) {
                    callsOf.computeIfAbsent(openMethod(), method -> new HashSet<>()).add(called);
                }
            } else if (!called.getSimpleName().contentEquals("<init>")) {
                String name = called.getEnclosingElement() + "." + called.getSimpleName();
                rule(4, name + " is on the list", tree, LIBRARY.contains(name));
            }
            return super.visitMethodInvocation(tree, none);
        }

        @Override
        public Void visitNewClass(NewClassTree tree, Void none) {
            rule(2, "no anonymous class", tree, tree.getClassBody() == null);
            rule(4, "only own objects are made", tree, isOwn(element(getCurrentPath())));
            rule(12, "\"a constructor .. hands out nothing of the object that it makes\"", tree, tree.getArguments().isEmpty());
            checkMadeOnce(tree);
            return super.visitNewClass(tree, none);
        }

        @Override
        public Void visitNewArray(NewArrayTree tree, Void none) {
            for (ExpressionTree length : tree.getDimensions()) {
                boolean isConstant = element(new TreePath(getCurrentPath(), length)) != null && length.toString().matches("[A-Z_]+");
                rule(7, "the length " + length + " is a constant", tree, isConstant);
            }
            checkMadeOnce(tree);
            return super.visitNewArray(tree, none);
        }

        /** In a field or in a constructor, so that no call makes an object. */
        private void checkMadeOnce(Tree tree) {
            MethodTree method = enclosing(MethodTree.class);
            rule(12, "no call makes an object", tree, method == null || method.getName().contentEquals("<init>"));
        }

        @Override
        public Void visitBinary(BinaryTree tree, Void none) {
            if (tree.getKind() == Tree.Kind.DIVIDE || tree.getKind() == Tree.Kind.REMAINDER) {
                checkDivisor(tree.getRightOperand());
            }
            return super.visitBinary(tree, none);
        }

        @Override
        public Void visitCompoundAssignment(CompoundAssignmentTree tree, Void none) {
            if (tree.getKind() == Tree.Kind.DIVIDE_ASSIGNMENT || tree.getKind() == Tree.Kind.REMAINDER_ASSIGNMENT) {
                checkDivisor(tree.getExpression());
            }
            return super.visitCompoundAssignment(tree, none);
        }

        private void checkDivisor(ExpressionTree divisor) {
            rule(7, "a divisor is a number that is not 0", divisor, divisor instanceof LiteralTree && !divisor.toString().equals("0"));
        }

        @Override
        public Void visitForLoop(ForLoopTree tree, Void none) {
            rule(9, "a counter against a bound", tree, hasBound(tree.getCondition()));
            return super.visitForLoop(tree, none);
        }

        @Override
        public Void visitWhileLoop(WhileLoopTree tree, Void none) {
            rule(9, "a counter against a bound", tree, hasBound(tree.getCondition()));
            return super.visitWhileLoop(tree, none);
        }

        @Override
        public Void visitDoWhileLoop(DoWhileLoopTree tree, Void none) {
            rule(9, "a counter against a bound", tree, hasBound(tree.getCondition()));
            return super.visitDoWhileLoop(tree, none);
        }

        /** A comparison that has to hold for the loop to go on. */
        private static boolean hasBound(ExpressionTree condition) {
            List<Tree> parts = new ArrayList<>();
            parts.add(condition);
            for (int at = 0; at < parts.size(); at++) {
                Tree part = parts.get(at);
                if (part instanceof ParenthesizedTree inner) {
                    parts.add(inner.getExpression());
                }
                if (part instanceof BinaryTree pair && pair.getKind() == Tree.Kind.CONDITIONAL_AND) {
                    parts.add(pair.getLeftOperand());
                    parts.add(pair.getRightOperand());
                }
                if (part != null && (part.getKind() == Tree.Kind.LESS_THAN || part.getKind() == Tree.Kind.GREATER_THAN_EQUAL)) {
                    return true;
                }
            }
            return false;
        }

        @Override
        public Void visitTypeCast(TypeCastTree tree, Void none) {
            rule(6, "casts are among numbers", tree, tree.getType() instanceof PrimitiveTypeTree);
            return super.visitTypeCast(tree, none);
        }

        @Override
        public Void visitInstanceOf(InstanceOfTree tree, Void none) {
            rule(6, "instanceof is about own classes", tree, isOwn(element(new TreePath(getCurrentPath(), tree.getType()))));
            return super.visitInstanceOf(tree, none);
        }

        @Override
        public Void visitLambdaExpression(LambdaExpressionTree tree, Void none) {
            never(2, "a lambda", tree);
            return super.visitLambdaExpression(tree, none);
        }

        @Override
        public Void visitMemberReference(MemberReferenceTree tree, Void none) {
            never(2, "a method reference", tree);
            return super.visitMemberReference(tree, none);
        }

        @Override
        public Void visitThrow(ThrowTree tree, Void none) {
            never(6, "throw", tree);
            return super.visitThrow(tree, none);
        }

        @Override
        public Void visitTry(TryTree tree, Void none) {
            never(6, "try", tree);
            return super.visitTry(tree, none);
        }

        @Override
        public Void visitSynchronized(SynchronizedTree tree, Void none) {
            never(6, "synchronized", tree);
            return super.visitSynchronized(tree, none);
        }

        @Override
        public Void visitAssert(AssertTree tree, Void none) {
            never(6, "assert", tree);
            return super.visitAssert(tree, none);
        }
    }
}
