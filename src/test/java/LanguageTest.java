import com.sun.source.tree.AssertTree;
import com.sun.source.tree.BinaryTree;
import com.sun.source.tree.BlockTree;
import com.sun.source.tree.ClassTree;
import com.sun.source.tree.CompilationUnitTree;
import com.sun.source.tree.DoWhileLoopTree;
import com.sun.source.tree.ForLoopTree;
import com.sun.source.tree.LambdaExpressionTree;
import com.sun.source.tree.LineMap;
import com.sun.source.tree.LiteralTree;
import com.sun.source.tree.MemberReferenceTree;
import com.sun.source.tree.MethodInvocationTree;
import com.sun.source.tree.MethodTree;
import com.sun.source.tree.NewArrayTree;
import com.sun.source.tree.NewClassTree;
import com.sun.source.tree.SynchronizedTree;
import com.sun.source.tree.ThrowTree;
import com.sun.source.tree.Tree;
import com.sun.source.tree.TryTree;
import com.sun.source.tree.TypeCastTree;
import com.sun.source.tree.VariableTree;
import com.sun.source.tree.WhileLoopTree;
import com.sun.source.util.JavacTask;
import com.sun.source.util.SourcePositions;
import com.sun.source.util.TreePathScanner;
import com.sun.source.util.Trees;
import java.io.IOException;
import java.nio.file.Files;
import java.nio.file.Path;
import java.util.HashMap;
import java.util.HashSet;
import java.util.Map;
import java.util.Set;
import javax.lang.model.element.Element;
import javax.lang.model.element.ExecutableElement;
import javax.lang.model.element.Modifier;
import javax.tools.JavaCompiler;
import javax.tools.StandardJavaFileManager;
import javax.tools.ToolProvider;

/** The rules of LANGUAGE.md that a reader of the source can check: what stands in it, and how deep and long it is. */
public final class LanguageTest {
    private static final Path SOURCE = Path.of("src/main/java/GlassRacks.java");
    private static final Set<String> LIBRARY = Set.of("java.lang.Math.max(int,int)", "java.lang.Object.Object()");
    private static final int DEEPEST = 8;
    private static final String TYPES = "(int|boolean|char|Settings|Sheet|Racks|Order|Orders|Cutting|State|History|CommandText)";

    private LanguageTest() {
    }

    public static void main(String[] args) throws IOException {
        Due.due("signs that are not 1 to 127", Files.readString(SOURCE).chars().filter(sign -> sign < 1 || sign > 127).count(), 0);
        JavaCompiler compiler = ToolProvider.getSystemJavaCompiler();
        try (StandardJavaFileManager files = compiler.getStandardFileManager(null, null, null)) {
            JavacTask task = (JavacTask) compiler.getTask(null, files, null, null, null, files.getJavaFileObjects(SOURCE));
            CompilationUnitTree unit = task.parse().iterator().next();
            task.analyze();
            Reader reader = new Reader(Trees.instance(task), unit);
            reader.scan(unit, null);
            reader.finish();
        }
        Due.finish();
    }

    /** Goes through the source once and notes who calls whom. */
    private static final class Reader extends TreePathScanner<Void, Void> {
        private final Trees trees;
        private final CompilationUnitTree unit;
        private final Map<String, Set<String>> calls = new HashMap<>();
        private String method = "";
        private int classes = 0;

        Reader(Trees trees, CompilationUnitTree unit) {
            this.trees = trees;
            this.unit = unit;
        }

        private void holds(Tree where, String rule, boolean so) {
            Due.due("line " + firstLine(where) + ": " + rule, so ? 1 : 0, 1);
        }

        private long firstLine(Tree tree) {
            return unit.getLineMap().getLineNumber(trees.getSourcePositions().getStartPosition(unit, tree));
        }

        private long lines(Tree tree) {
            SourcePositions positions = trees.getSourcePositions();
            LineMap map = unit.getLineMap();
            return map.getLineNumber(positions.getEndPosition(unit, tree)) - firstLine(tree) + 1;
        }

        void finish() {
            holds(unit, "rule 1: no package, no import", unit.getPackage() == null && unit.getImports().isEmpty());
            holds(unit, "rule 11: at most twelve classes", classes <= 12);
            for (String caller : calls.keySet()) {
                int depth = depth(caller, new HashSet<>());
                holds(unit, "rule 11: calls at most " + DEEPEST + " deep below " + caller, depth <= DEEPEST);
            }
        }

        /** How many calls stand open at once, at most, with this one; beyond all bounds if it comes back to itself. */
        private int depth(String caller, Set<String> open) {
            if (!open.add(caller)) {
                return DEEPEST * DEEPEST;
            }
            int deepest = 0;
            for (String callee : calls.getOrDefault(caller, Set.of())) {
                deepest = Math.max(deepest, depth(callee, open));
            }
            open.remove(caller);
            return deepest + 1;
        }

        @Override
        public Void visitClass(ClassTree tree, Void nothing) {
            classes++;
            boolean outer = getCurrentPath().getParentPath().getLeaf() instanceof CompilationUnitTree;
            boolean member = getCurrentPath().getParentPath().getLeaf() instanceof ClassTree;
            Set<Modifier> flags = tree.getModifiers().getFlags();
            holds(tree, "rule 2: classes inside are static", outer || member && flags.contains(Modifier.STATIC));
            holds(tree, "rule 1: classes inside are not public", outer || !flags.contains(Modifier.PUBLIC));
            int fields = 0;
            for (Tree part : tree.getMembers()) {
                holds(part, "rule 5: no initialiser block", !(part instanceof BlockTree));
                if (part instanceof VariableTree) {
                    Set<Modifier> field = ((VariableTree) part).getModifiers().getFlags();
                    boolean fixed = field.contains(Modifier.STATIC);
                    fields += fixed ? 0 : 1;
                    holds(part, "rule 5: static fields are final", !fixed || field.contains(Modifier.FINAL));
                }
            }
            holds(tree, "rule 11: at most twenty fields", fields <= 20);
            return super.visitClass(tree, nothing);
        }

        @Override
        public Void visitMethod(MethodTree tree, Void nothing) {
            method = nameOf(trees.getElement(getCurrentPath()));
            calls.putIfAbsent(method, new HashSet<>());
            holds(tree, "rule 11: at most seven parameters", tree.getParameters().size() <= 7);
            holds(tree, "rule 11: at most sixty lines", lines(tree) <= 60);
            holds(tree, "rule 6: throws nothing", tree.getThrows().isEmpty());
            return super.visitMethod(tree, nothing);
        }

        @Override
        public Void visitVariable(VariableTree tree, Void nothing) {
            holds(tree, "rule 3: the type " + tree.getType(), tree.getType().toString().matches(TYPES + "(\\[\\])?"));
            return super.visitVariable(tree, nothing);
        }

        @Override
        public Void visitLiteral(LiteralTree tree, Void nothing) {
            holds(tree, "rule 3: no text is needed here", tree.getKind() != Tree.Kind.STRING_LITERAL);
            return super.visitLiteral(tree, nothing);
        }

        @Override
        public Void visitMethodInvocation(MethodInvocationTree tree, Void nothing) {
            called(tree, trees.getElement(getCurrentPath()));
            return super.visitMethodInvocation(tree, nothing);
        }

        @Override
        public Void visitNewClass(NewClassTree tree, Void nothing) {
            holds(tree, "rule 2: no anonymous class", tree.getClassBody() == null);
            called(tree, trees.getElement(getCurrentPath()));
            return super.visitNewClass(tree, nothing);
        }

        private void called(Tree tree, Element callee) {
            String name = nameOf(callee);
            boolean own = name.startsWith("GlassRacks");
            holds(tree, "rule 4: no library call " + name, own || LIBRARY.contains(name));
            calls.computeIfAbsent(method, none -> new HashSet<>()).add(name);
        }

        private static String nameOf(Element element) {
            if (!(element instanceof ExecutableElement)) {
                return "unknown";
            }
            String owner = element.getEnclosingElement().toString();
            boolean made = element.getSimpleName().contentEquals("<init>");
            String call = element.toString();
            String simple = owner.substring(owner.lastIndexOf('.') + 1);
            return owner + "." + (made ? simple + call.substring(call.indexOf('(')) : call);
        }

        @Override
        public Void visitForLoop(ForLoopTree tree, Void nothing) {
            holds(tree, "rule 9: a counter against a bound", tree.getCondition() != null && tree.getUpdate().size() == 1
                && tree.getInitializer().size() == 1);
            return super.visitForLoop(tree, nothing);
        }

        @Override
        public Void visitWhileLoop(WhileLoopTree tree, Void nothing) {
            holds(tree, "rule 9: loops are counted here", false);
            return super.visitWhileLoop(tree, nothing);
        }

        @Override
        public Void visitDoWhileLoop(DoWhileLoopTree tree, Void nothing) {
            holds(tree, "rule 9: loops are counted here", false);
            return super.visitDoWhileLoop(tree, nothing);
        }

        @Override
        public Void visitNewArray(NewArrayTree tree, Void nothing) {
            holds(tree, "rule 7: an array has a length that is a constant", tree.getDimensions().size() == 1
                && tree.getDimensions().get(0).toString().matches("[A-Z_]+"));
            return super.visitNewArray(tree, nothing);
        }

        /** A divisor is a constant, or stands behind the test of itself in the same line. */
        @Override
        public Void visitBinary(BinaryTree tree, Void nothing) {
            if (tree.getKind() == Tree.Kind.DIVIDE || tree.getKind() == Tree.Kind.REMAINDER) {
                String divisor = tree.getRightOperand().toString();
                holds(tree, "rule 7: a tested divisor", divisor.equals("RACK_ROOM") || divisor.equals("settings.fragility")
                    && getCurrentPath().getParentPath().getParentPath().getLeaf().toString().contains("settings.fragility <= 0 ||"));
            }
            return super.visitBinary(tree, nothing);
        }

        @Override
        public Void visitTypeCast(TypeCastTree tree, Void nothing) {
            holds(tree, "rule 6: no cast is needed here", false);
            return super.visitTypeCast(tree, nothing);
        }

        @Override
        public Void visitLambdaExpression(LambdaExpressionTree tree, Void nothing) {
            holds(tree, "rule 2: no lambda", false);
            return super.visitLambdaExpression(tree, nothing);
        }

        @Override
        public Void visitMemberReference(MemberReferenceTree tree, Void nothing) {
            holds(tree, "rule 2: no method reference", false);
            return super.visitMemberReference(tree, nothing);
        }

        @Override
        public Void visitThrow(ThrowTree tree, Void nothing) {
            holds(tree, "rule 6: no throw", false);
            return super.visitThrow(tree, nothing);
        }

        @Override
        public Void visitTry(TryTree tree, Void nothing) {
            holds(tree, "rule 6: no try", false);
            return super.visitTry(tree, nothing);
        }

        @Override
        public Void visitSynchronized(SynchronizedTree tree, Void nothing) {
            holds(tree, "rule 6: no synchronized", false);
            return super.visitSynchronized(tree, nothing);
        }

        @Override
        public Void visitAssert(AssertTree tree, Void nothing) {
            holds(tree, "rule 6: no assert", false);
            return super.visitAssert(tree, nothing);
        }
    }
}
