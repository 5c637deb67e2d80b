import com.sun.source.tree.AssertTree;
import com.sun.source.tree.BlockTree;
import com.sun.source.tree.ClassTree;
import com.sun.source.tree.CompilationUnitTree;
import com.sun.source.tree.ImportTree;
import com.sun.source.tree.LambdaExpressionTree;
import com.sun.source.tree.MemberReferenceTree;
import com.sun.source.tree.MethodInvocationTree;
import com.sun.source.tree.MethodTree;
import com.sun.source.tree.NewClassTree;
import com.sun.source.tree.SynchronizedTree;
import com.sun.source.tree.ThrowTree;
import com.sun.source.tree.Tree;
import com.sun.source.tree.TryTree;
import com.sun.source.tree.VariableTree;
import com.sun.source.util.JavacTask;
import com.sun.source.util.TreePath;
import com.sun.source.util.TreePathScanner;
import com.sun.source.util.Trees;
import java.io.IOException;
import java.nio.file.Path;
import java.util.HashMap;
import java.util.HashSet;
import java.util.List;
import java.util.Map;
import java.util.Set;
import java.util.TreeSet;
import javax.lang.model.element.Element;
import javax.lang.model.element.ElementKind;
import javax.lang.model.element.Modifier;
import javax.tools.JavaCompiler;
import javax.tools.StandardJavaFileManager;
import javax.tools.ToolProvider;

/** The rules of LANGUAGE.md that can be told from the source alone (rule 1 is FaceTest's, 12 RoomTest's). */
public final class LanguageTest {
    private static final Check C = new Check("LanguageTest");
    private static final Path SOURCE = Path.of("src", "main", "java", "AgentNet.java");
    private static final Set<String> IMPORTS = Set.of("java.util.Arrays", "java.util.ArrayList", "java.util.List",
        "java.util.Iterator");
    private static final Set<String> STATIC_TYPES = Set.of("int", "long", "boolean", "char", "String", "int[]", "long[]",
        "char[]", "byte[]");
    private static final Set<String> EXCEPTIONS = Set.of("IllegalStateException", "IllegalArgumentException",
        "IndexOutOfBoundsException", "ArithmeticException", "UnsupportedOperationException", "NoSuchElementException",
        "RuntimeException");
    /** A part of what rule 4 allows: the rest may be added when the program needs it. */
    private static final Set<String> LIBRARY = Set.of("java.lang.System.arraycopy", "java.util.Arrays.fill",
        "java.util.Arrays.copyOf", "java.util.Arrays.copyOfRange");
    private static final Set<String> NUMBERS = Set.of("java.lang.Math", "java.lang.Integer", "java.lang.Long");

    public static void main(String[] args) throws IOException {
        JavaCompiler compiler = ToolProvider.getSystemJavaCompiler();
        try (StandardJavaFileManager files = compiler.getStandardFileManager(null, null, null)) {
            JavacTask task = (JavacTask) compiler.getTask(null, files, null, List.of("-proc:none"), null,
                files.getJavaFileObjects(SOURCE));
            CompilationUnitTree unit = task.parse().iterator().next();
            task.analyze();
            Rules rules = new Rules(Trees.instance(task), unit);
            C.same("no package line", unit.getPackageName() == null, true);
            for (ImportTree one : unit.getImports()) {
                holds("rule 4", "import " + one.getQualifiedIdentifier(),
                    !one.isStatic() && IMPORTS.contains(one.getQualifiedIdentifier().toString()));
            }
            rules.scan(unit, null);
            rules.whole();
        }
        C.finish();
    }

    private static void holds(String rule, String what, boolean is) {
        C.same(rule + ": " + what + " is as it says", is, true);
    }

    private static final class Rules extends TreePathScanner<Void, Void> {
        private final Trees trees;
        private final CompilationUnitTree unit;
        private final Map<Element, Set<Element>> calls = new HashMap<>();
        private int classes = 0;

        Rules(Trees trees, CompilationUnitTree unit) {
            this.trees = trees;
            this.unit = unit;
        }

        private Element at(TreePath path) {
            return trees.getElement(path);
        }

        private int lines(Tree tree) {
            long first = trees.getSourcePositions().getStartPosition(unit, tree);
            long last = trees.getSourcePositions().getEndPosition(unit, tree);
            return (int) (unit.getLineMap().getLineNumber(last) - unit.getLineMap().getLineNumber(first)) + 1;
        }

        private MethodTree method() {
            TreePath path = getCurrentPath();
            while (path != null && !(path.getLeaf() instanceof MethodTree)) {
                path = path.getParentPath();
            }
            return path == null ? null : (MethodTree) path.getLeaf();
        }

        private Element methodHere() {
            MethodTree method = method();
            return method == null ? null : at(TreePath.getPath(unit, method));
        }

        @Override
        public Void visitClass(ClassTree tree, Void none) {
            classes++;
            int fields = 0;
            holds("rule 2", "a class in a method: " + tree.getSimpleName(), method() == null);
            for (Tree member : tree.getMembers()) {
                if (member instanceof VariableTree && !((VariableTree) member).getModifiers().getFlags().contains(Modifier.STATIC)) {
                    fields++;
                }
                holds("rule 5", "a static block", !(member instanceof BlockTree && ((BlockTree) member).isStatic()));
            }
            holds("rule 11", fields + " fields of " + tree.getSimpleName(), fields <= 20);
            return super.visitClass(tree, none);
        }

        @Override
        public Void visitVariable(VariableTree tree, Void none) {
            Set<Modifier> flags = tree.getModifiers().getFlags();
            if (flags.contains(Modifier.STATIC)) {
                holds("rule 5", "static " + tree.getName(),
                    flags.contains(Modifier.FINAL) && STATIC_TYPES.contains(tree.getType().toString()));
            }
            String type = tree.getType() == null ? "" : tree.getType().toString();
            holds("rule 3", type + " " + tree.getName(),
                !type.endsWith("[][][]") && (!type.endsWith("[][]") || type.matches("(int|long|short|byte|char|double|float).*")));
            return super.visitVariable(tree, none);
        }

        @Override
        public Void visitMethod(MethodTree tree, Void none) {
            calls.put(at(getCurrentPath()), new HashSet<>());
            holds("rule 11", tree.getName() + " of " + lines(tree) + " lines", lines(tree) <= 60);
            holds("rule 11", tree.getName() + " of " + tree.getParameters().size() + " parameters", tree.getParameters().size() <= 7);
            return super.visitMethod(tree, none);
        }

        @Override
        public Void visitMethodInvocation(MethodInvocationTree tree, Void none) {
            calledHere(at(getCurrentPath()));
            return super.visitMethodInvocation(tree, none);
        }

        @Override
        public Void visitNewClass(NewClassTree tree, Void none) {
            calledHere(at(getCurrentPath()));
            return super.visitNewClass(tree, none);
        }

        private void calledHere(Element called) {
            String owner = called.getEnclosingElement().toString();
            if (owner.startsWith("AgentNet")) {
                Element here = methodHere();
                if (here != null) {
                    calls.get(here).add(called);
                }
            } else if (called.getKind() == ElementKind.CONSTRUCTOR) {
                holds("rule 4 or 6", "new " + owner, EXCEPTIONS.contains(owner.substring(owner.lastIndexOf('.') + 1))
                    || owner.equals("java.lang.Object"));
            } else {
                String name = owner + "." + called.getSimpleName();
                holds("rule 4", name, LIBRARY.contains(name) || NUMBERS.contains(owner) && !name.endsWith("Exact"));
            }
        }

        @Override
        public Void visitThrow(ThrowTree tree, Void none) {
            holds("rule 6", "" + tree, tree.getExpression() instanceof NewClassTree
                && EXCEPTIONS.contains(((NewClassTree) tree.getExpression()).getIdentifier().toString()));
            holds("rule 6", "a throw in a constructor", method() != null && method().getReturnType() != null);
            return super.visitThrow(tree, none);
        }

        @Override
        public Void visitTry(TryTree tree, Void none) {
            holds("rule 6", "try", tree.getFinallyBlock() == null && tree.getResources().isEmpty());
            return super.visitTry(tree, none);
        }

        @Override
        public Void visitLambdaExpression(LambdaExpressionTree tree, Void none) {
            holds("rule 2", "a lambda", false);
            return super.visitLambdaExpression(tree, none);
        }

        @Override
        public Void visitMemberReference(MemberReferenceTree tree, Void none) {
            holds("rule 2", "a method reference", false);
            return super.visitMemberReference(tree, none);
        }

        @Override
        public Void visitSynchronized(SynchronizedTree tree, Void none) {
            holds("rule 6", "synchronized", false);
            return super.visitSynchronized(tree, none);
        }

        @Override
        public Void visitAssert(AssertTree tree, Void none) {
            holds("rule 6", "assert", false);
            return super.visitAssert(tree, none);
        }

        /** What can be told only when all of the source was gone over. */
        void whole() {
            holds("rule 11", classes + " classes", classes <= 12);
            int deepest = 0;
            for (Element from : calls.keySet()) {
                deepest = Math.max(deepest, depth(from, new TreeSet<>()));
            }
            holds("rule 11", "calls " + deepest + " deep", deepest <= 8);
        }

        /** A method that is met again on its own way is recursion, which this program does without. */
        private int depth(Element from, Set<String> open) {
            String name = from.getEnclosingElement() + "." + from;
            if (!open.add(name)) {
                holds("rule 8", "recursion of " + name, false);
                return 1;
            }
            int most = 0;
            for (Element to : calls.getOrDefault(from, Set.of())) {
                most = Math.max(most, depth(to, open));
            }
            open.remove(name);
            return 1 + most;
        }
    }
}
