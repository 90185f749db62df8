import com.sun.source.tree.AnnotationTree;
import com.sun.source.tree.AssertTree;
import com.sun.source.tree.BinaryTree;
import com.sun.source.tree.ClassTree;
import com.sun.source.tree.CompilationUnitTree;
import com.sun.source.tree.DoWhileLoopTree;
import com.sun.source.tree.EnhancedForLoopTree;
import com.sun.source.tree.ForLoopTree;
import com.sun.source.tree.ImportTree;
import com.sun.source.tree.LambdaExpressionTree;
import com.sun.source.tree.LineMap;
import com.sun.source.tree.MemberReferenceTree;
import com.sun.source.tree.MethodInvocationTree;
import com.sun.source.tree.MethodTree;
import com.sun.source.tree.NewArrayTree;
import com.sun.source.tree.NewClassTree;
import com.sun.source.tree.SynchronizedTree;
import com.sun.source.tree.ThrowTree;
import com.sun.source.tree.Tree;
import com.sun.source.tree.TryTree;
import com.sun.source.tree.TypeCastTree;
import com.sun.source.tree.UnaryTree;
import com.sun.source.tree.VariableTree;
import com.sun.source.tree.WhileLoopTree;
import com.sun.source.util.JavacTask;
import com.sun.source.util.TreePathScanner;
import com.sun.source.util.Trees;
import java.io.IOException;
import java.nio.file.Files;
import java.nio.file.Path;
import java.util.HashSet;
import java.util.List;
import java.util.Map;
import java.util.Set;
import java.util.TreeMap;
import java.util.TreeSet;
import javax.lang.model.element.Element;
import javax.lang.model.element.ElementKind;
import javax.lang.model.element.Modifier;
import javax.lang.model.element.VariableElement;
import javax.lang.model.type.ArrayType;
import javax.lang.model.type.TypeKind;
import javax.lang.model.type.TypeMirror;
import javax.tools.JavaCompiler;
import javax.tools.StandardJavaFileManager;
import javax.tools.ToolProvider;

/** The rules of LANGUAGE.md that can be seen in the text, by the compiler's own reading of it. */
public final class RulesTest extends TreePathScanner<Void, Void> {
    private static final Set<String> LIBRARY = Set.of("java.lang.Math.max", "java.lang.Math.min", "java.lang.Math.abs",
        "java.lang.Math.floorMod", "java.lang.Math.floorDiv", "java.lang.Integer.bitCount", "java.util.Arrays.fill",
        "java.lang.System.arraycopy", "java.lang.Object.<init>");
    private static final int DEEPEST = 8;

    private final Trees trees;
    private final CompilationUnitTree unit;
    private final Map<String, Set<String>> calls = new TreeMap<>();
    private int classes = 0;

    private RulesTest(Trees trees, CompilationUnitTree unit) {
        this.trees = trees;
        this.unit = unit;
    }

    public static void main(String[] args) throws IOException {
        String path = args.length > 0 ? args[0] : "src/main/java/LeastBars.java";
        Due.part("LANGUAGE.md");
        Due.holds("signs 1 .. 127 (rule 4)", Files.readString(Path.of(path)).chars().allMatch(c -> c > 0 && c < 128));
        JavaCompiler compiler = ToolProvider.getSystemJavaCompiler();
        try (StandardJavaFileManager files = compiler.getStandardFileManager(null, null, null)) {
            JavacTask task = (JavacTask) compiler.getTask(null, files, null, List.of("-proc:none"), null,
                files.getJavaFileObjects(path));
            CompilationUnitTree unit = task.parse().iterator().next();
            task.analyze();
            RulesTest test = new RulesTest(Trees.instance(task), unit);
            test.scan(unit, null);
            test.wholeFile();
        }
        Due.close();
    }

    private void wholeFile() {
        Due.holds("no package line", unit.getPackageName() == null);
        Due.is("one class at the top", unit.getTypeDecls().size(), 1);
        Due.holds("at most twelve classes (rule 11), here " + classes, classes <= 12);
        int deepest = 0;
        for (String method : calls.keySet()) {
            deepest = Math.max(deepest, depth(method, new HashSet<>()));
        }
        Due.holds("calls go at most eight deep, with no recursion (rules 8, 11), here " + deepest, deepest <= DEEPEST);
    }

    /** How many calls stand open at once, from this one on; more than allowed, if it comes to itself. */
    private int depth(String method, Set<String> open) {
        if (!open.add(method)) {
            return DEEPEST + 1;
        }
        int deepest = 0;
        for (String next : calls.getOrDefault(method, Set.of())) {
            deepest = Math.max(deepest, depth(next, open));
        }
        open.remove(method);
        return deepest + 1;
    }

    private String where(Tree tree) {
        LineMap lines = unit.getLineMap();
        return " in line " + lines.getLineNumber(trees.getSourcePositions().getStartPosition(unit, tree));
    }

    private Element element(Tree tree) {
        return trees.getElement(trees.getPath(unit, tree));
    }

    private TypeMirror type(Tree tree) {
        return trees.getTypeMirror(trees.getPath(unit, tree));
    }

    private static String nameOf(Element method) {
        return method.getEnclosingElement() + "." + method.getSimpleName();
    }

    private void never(String what, Tree tree) {
        Due.holds("no " + what + where(tree), false);
    }

    private Tree enclosing(Tree.Kind kind) {
        for (Tree tree : getCurrentPath().getParentPath()) {
            if (tree.getKind() == kind) {
                return tree;
            }
        }
        return null;
    }

    @Override
    public Void visitImport(ImportTree tree, Void nothing) {
        Due.is("import" + where(tree), tree.getQualifiedIdentifier().toString().equals("java.util.Arrays") ? 1 : 0, 1);
        return super.visitImport(tree, nothing);
    }

    @Override
    public Void visitClass(ClassTree tree, Void nothing) {
        classes++;
        Element one = element(tree);
        Due.holds("no local or anonymous class" + where(tree), enclosing(Tree.Kind.METHOD) == null);
        boolean top = one.getEnclosingElement().getKind() == ElementKind.PACKAGE;
        Due.holds("a class inside is static" + where(tree), top || one.getModifiers().contains(Modifier.STATIC));
        int fields = 0;
        for (Tree member : tree.getMembers()) {
            Due.holds("no block of its own" + where(member), member.getKind() != Tree.Kind.BLOCK);
            if (member.getKind() == Tree.Kind.VARIABLE && !element(member).getModifiers().contains(Modifier.STATIC)) {
                fields++;
            }
        }
        Due.holds("at most twenty fields (rule 11)" + where(tree), fields <= 20);
        return super.visitClass(tree, nothing);
    }

    @Override
    public Void visitMethod(MethodTree tree, Void nothing) {
        Due.holds("at most seven parameters (rule 11)" + where(tree), tree.getParameters().size() <= 7);
        Due.holds("no throws" + where(tree), tree.getThrows().isEmpty());
        LineMap lines = unit.getLineMap();
        long from = trees.getSourcePositions().getStartPosition(unit, tree);
        long to = trees.getSourcePositions().getEndPosition(unit, tree);
        if (to > from) {
            long length = lines.getLineNumber(to) - lines.getLineNumber(from) + 1;
            Due.holds("at most sixty lines (rule 11)" + where(tree), length <= 60);
        }
        calls.computeIfAbsent(nameOf(element(tree)), key -> new TreeSet<>());
        return super.visitMethod(tree, nothing);
    }

    @Override
    public Void visitVariable(VariableTree tree, Void nothing) {
        Element one = element(tree);
        Due.holds("a type of rule 3" + where(tree), isAllowed(one.asType(), 0));
        if (one.getKind() == ElementKind.FIELD && one.getModifiers().contains(Modifier.STATIC)) {
            boolean constant = one.getModifiers().contains(Modifier.FINAL) && one.asType().getKind().isPrimitive();
            Due.holds("a static field is a constant (rule 5)" + where(tree), constant);
        }
        return super.visitVariable(tree, nothing);
    }

    private static boolean isAllowed(TypeMirror type, int dimensions) {
        if (type.getKind() == TypeKind.ARRAY) {
            return dimensions == 0 && isAllowed(((ArrayType) type).getComponentType(), 1);
        }
        return type.getKind() == TypeKind.INT || type.getKind() == TypeKind.BOOLEAN
            || type.toString().startsWith("LeastBars");
    }

    @Override
    public Void visitMethodInvocation(MethodInvocationTree tree, Void nothing) {
        Element called = element(tree.getMethodSelect());
        String name = nameOf(called);
        if (called.getSimpleName().contentEquals("<init>") || !name.startsWith("LeastBars")) {
            Due.holds(name + " is of the library that there is (rule 4)" + where(tree), LIBRARY.contains(name));
        } else {
            noteCall(name);
        }
        return super.visitMethodInvocation(tree, nothing);
    }

    private void noteCall(String name) {
        Tree method = enclosing(Tree.Kind.METHOD);
        if (method != null) {
            calls.computeIfAbsent(nameOf(element(method)), key -> new TreeSet<>()).add(name);
        }
    }

    @Override
    public Void visitNewClass(NewClassTree tree, Void nothing) {
        Due.holds("no anonymous class" + where(tree), tree.getClassBody() == null);
        Due.holds("an own class" + where(tree), type(tree).toString().startsWith("LeastBars"));
        madeInConstructor(tree);
        return super.visitNewClass(tree, nothing);
    }

    @Override
    public Void visitNewArray(NewArrayTree tree, Void nothing) {
        madeInConstructor(tree);
        return super.visitNewArray(tree, nothing);
    }

    private void madeInConstructor(Tree tree) {
        Tree method = enclosing(Tree.Kind.METHOD);
        Due.holds("made in a constructor, not by a call (rule 12)" + where(tree),
            method == null || ((MethodTree) method).getName().contentEquals("<init>"));
    }

    @Override
    public Void visitForLoop(ForLoopTree tree, Void nothing) {
        boolean counts = tree.getInitializer().size() == 1 && tree.getUpdate().size() == 1
            && tree.getUpdate().get(0).getExpression().getKind() == Tree.Kind.POSTFIX_INCREMENT;
        Due.holds("a loop counts (rule 9)" + where(tree), counts);
        if (counts) {
            UnaryTree step = (UnaryTree) tree.getUpdate().get(0).getExpression();
            Due.holds("a loop has a bound (rule 9)" + where(tree),
                String.valueOf(tree.getCondition()).startsWith(step.getExpression() + " < "));
        }
        return super.visitForLoop(tree, nothing);
    }

    @Override
    public Void visitBinary(BinaryTree tree, Void nothing) {
        Due.holds("texts are not joined by + (rule 10)" + where(tree),
            tree.getKind() != Tree.Kind.PLUS || type(tree).getKind().isPrimitive());
        boolean divides = tree.getKind() == Tree.Kind.DIVIDE || tree.getKind() == Tree.Kind.REMAINDER;
        Due.holds("a divisor is a constant (rule 7)" + where(tree), !divides || isConstant(tree.getRightOperand()));
        return super.visitBinary(tree, nothing);
    }

    private boolean isConstant(Tree tree) {
        return element(tree) instanceof VariableElement one && one.getConstantValue() instanceof Integer value
            && value != 0;
    }

    @Override
    public Void visitWhileLoop(WhileLoopTree tree, Void nothing) {
        never("while, as loops count here", tree);
        return super.visitWhileLoop(tree, nothing);
    }

    @Override
    public Void visitDoWhileLoop(DoWhileLoopTree tree, Void nothing) {
        never("do, as loops count here", tree);
        return super.visitDoWhileLoop(tree, nothing);
    }

    @Override
    public Void visitEnhancedForLoop(EnhancedForLoopTree tree, Void nothing) {
        Due.holds("for over an array alone" + where(tree), type(tree.getExpression()).getKind() == TypeKind.ARRAY);
        return super.visitEnhancedForLoop(tree, nothing);
    }

    @Override
    public Void visitLambdaExpression(LambdaExpressionTree tree, Void nothing) {
        never("lambda (rule 2)", tree);
        return super.visitLambdaExpression(tree, nothing);
    }

    @Override
    public Void visitMemberReference(MemberReferenceTree tree, Void nothing) {
        never("method reference (rule 2)", tree);
        return super.visitMemberReference(tree, nothing);
    }

    @Override
    public Void visitThrow(ThrowTree tree, Void nothing) {
        never("throw (rule 6)", tree);
        return super.visitThrow(tree, nothing);
    }

    @Override
    public Void visitTry(TryTree tree, Void nothing) {
        never("try (rule 6)", tree);
        return super.visitTry(tree, nothing);
    }

    @Override
    public Void visitSynchronized(SynchronizedTree tree, Void nothing) {
        never("synchronized (rule 6)", tree);
        return super.visitSynchronized(tree, nothing);
    }

    @Override
    public Void visitAssert(AssertTree tree, Void nothing) {
        never("assert (rule 6)", tree);
        return super.visitAssert(tree, nothing);
    }

    @Override
    public Void visitTypeCast(TypeCastTree tree, Void nothing) {
        Due.holds("a cast among numbers alone" + where(tree), type(tree.getType()).getKind().isPrimitive());
        return super.visitTypeCast(tree, nothing);
    }

    @Override
    public Void visitAnnotation(AnnotationTree tree, Void nothing) {
        never("annotation", tree);
        return super.visitAnnotation(tree, nothing);
    }
}
