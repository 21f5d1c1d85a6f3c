import com.sun.source.tree.AssertTree;
import com.sun.source.tree.BinaryTree;
import com.sun.source.tree.ClassTree;
import com.sun.source.tree.CompilationUnitTree;
import com.sun.source.tree.CompoundAssignmentTree;
import com.sun.source.tree.LambdaExpressionTree;
import com.sun.source.tree.LiteralTree;
import com.sun.source.tree.MemberReferenceTree;
import com.sun.source.tree.MethodInvocationTree;
import com.sun.source.tree.MethodTree;
import com.sun.source.tree.NewArrayTree;
import com.sun.source.tree.NewClassTree;
import com.sun.source.tree.SynchronizedTree;
import com.sun.source.tree.ThrowTree;
import com.sun.source.tree.Tree;
import com.sun.source.tree.TryTree;
import com.sun.source.tree.TypeCastTree;
import com.sun.source.tree.VariableTree;
import com.sun.source.util.JavacTask;
import com.sun.source.util.TreePath;
import com.sun.source.util.TreePathScanner;
import com.sun.source.util.Trees;
import java.io.File;
import java.io.IOException;
import java.util.ArrayDeque;
import java.util.Deque;
import java.util.LinkedHashMap;
import java.util.LinkedHashSet;
import java.util.Map;
import java.util.Set;
import javax.lang.model.element.Element;
import javax.lang.model.element.ElementKind;
import javax.lang.model.element.Modifier;
import javax.lang.model.type.ArrayType;
import javax.lang.model.type.TypeMirror;
import javax.tools.JavaCompiler;
import javax.tools.StandardJavaFileManager;
import javax.tools.ToolProvider;

/**
 * The class keeps to LANGUAGE.md: its source is read by the compiler's own reader, and held against the rules. It is
 * held to less than they allow where the class needs less: no list, no try, no class but a static one.
 */
public final class LanguageTest extends TreePathScanner<Void, Void> {
    private static final String SOURCE = "src/main/java/FruitHalls.java";
    private static final Set<String> LIBRARY = Set.of("Math.max", "Math.min", "Math.abs",
            "String.length", "String.charAt");
    private static final int PARAMETERS_MOST = 7;
    private static final int LINES_MOST = 60;
    private static final int DEPTH_MOST = 8;
    private static final int CLASSES_MOST = 12;
    private static final int FIELDS_MOST = 20;

    private static final Due due = new Due();

    private final Trees trees;
    private final CompilationUnitTree unit;
    private final Map<String, Set<String>> calls = new LinkedHashMap<>();
    private final Set<String> face = new LinkedHashSet<>();
    private final Deque<String> inClass = new ArrayDeque<>();
    private String inMethod = null;
    private boolean inMaker = false;
    private boolean inThrow = false;
    private int classes = 0;

    private LanguageTest(Trees trees, CompilationUnitTree unit) {
        this.trees = trees;
        this.unit = unit;
    }

    public static void main(String[] args) throws IOException {
        JavaCompiler compiler = ToolProvider.getSystemJavaCompiler();
        try (StandardJavaFileManager files = compiler.getStandardFileManager(null, null, null)) {
            JavacTask task = (JavacTask) compiler.getTask(null, files, null, null, null,
                    files.getJavaFileObjects(new File(SOURCE)));
            CompilationUnitTree unit = task.parse().iterator().next();
            task.analyze();
            LanguageTest test = new LanguageTest(Trees.instance(task), unit);
            test.scan(unit, null);
            due.same("rule 11: classes beyond " + CLASSES_MOST, 0, Math.max(0, test.classes - CLASSES_MOST));
            test.depths();
        }
        due.finish("LanguageTest");
    }

    /** Rule 11: "calls that are no recursion go at most eight deep", the one of the face among them; none recurs. */
    private void depths() {
        due.same("calls of the face", 22, face.size());
        for (String each : face) {
            int depth = depthOf(each, new ArrayDeque<>());
            due.yes("rule 11: " + each + " goes " + depth + " deep", depth <= DEPTH_MOST);
        }
    }

    private int depthOf(String method, Deque<String> open) {
        if (open.contains(method)) {
            due.yes("rule 8: " + method + " calls itself", false);
            return 0;
        }
        open.push(method);
        int deepest = 0;
        for (String callee : calls.getOrDefault(method, Set.of())) {
            deepest = Math.max(deepest, depthOf(callee, open));
        }
        open.pop();
        return deepest + 1;
    }

    @Override
    public Void visitCompilationUnit(CompilationUnitTree node, Void p) {
        due.yes("there is no package line", node.getPackageName() == null);
        due.same("one class stands in the file", 1, node.getTypeDecls().size());
        node.getImports().forEach(each -> due.yes(each + " is of the document's face",
                each.getQualifiedIdentifier().toString().equals("java.util.NoSuchElementException")));
        return super.visitCompilationUnit(node, p);
    }

    /** Rules 2 and 11. */
    @Override
    public Void visitClass(ClassTree node, Void p) {
        String name = node.getSimpleName().toString();
        classes++;
        due.yes("rule 2: " + name + " is a class", node.getKind() == Tree.Kind.CLASS);
        due.yes("rule 2: " + name + " has a name", !name.isEmpty());
        due.yes("rule 2: " + name + " is static, or the class of the document",
                inClass.isEmpty() || node.getModifiers().getFlags().contains(Modifier.STATIC));
        due.yes("rule 12: " + name + " is final, so that its constructor calls nothing that is overridden",
                node.getModifiers().getFlags().contains(Modifier.FINAL));
        int fields = 0;
        for (Tree member : node.getMembers()) {
            due.no("rule 5: " + name + " has an initialiser block", member.getKind() == Tree.Kind.BLOCK);
            if (member instanceof VariableTree field && !isStatic(field)) {
                fields++;
            }
        }
        due.yes("rule 11: " + name + " has " + fields + " fields", fields <= FIELDS_MOST);
        inClass.push(name);
        super.visitClass(node, p);
        inClass.pop();
        return null;
    }

    /** Rule 11. */
    @Override
    public Void visitMethod(MethodTree node, Void p) {
        inMethod = inClass.peek() + "." + node.getName();
        inMaker = node.getReturnType() == null;
        boolean isNew = calls.putIfAbsent(inMethod, new LinkedHashSet<>()) == null;
        due.yes(inMethod + " is the only one of its name", isNew || inMaker);
        if (node.getModifiers().getFlags().contains(Modifier.PUBLIC)) {
            face.add(inMethod);
        }
        int parameters = node.getParameters().size();
        due.yes("rule 11: " + inMethod + " has " + parameters + " parameters", parameters <= PARAMETERS_MOST);
        long lines = lineOf(trees.getSourcePositions().getEndPosition(unit, node))
                - lineOf(trees.getSourcePositions().getStartPosition(unit, node)) + 1;
        due.yes("rule 11: " + inMethod + " has " + lines + " lines", lines <= LINES_MOST);
        super.visitMethod(node, p);
        inMethod = null;
        inMaker = false;
        return null;
    }

    private long lineOf(long position) {
        return unit.getLineMap().getLineNumber(position);
    }

    /** Rules 3 and 5. */
    @Override
    public Void visitVariable(VariableTree node, Void p) {
        String name = inClass.peek() + "." + (inMethod == null ? "" : inMethod + ".") + node.getName();
        due.yes("rule 3: the type of " + name, isOfRuleThree(typeOf(getCurrentPath())));
        if (isStatic(node)) {
            due.yes("rule 5: " + name + " is final", node.getModifiers().getFlags().contains(Modifier.FINAL));
            due.yes("rule 5: " + name + " is a constant", node.getType().toString().equals("int"));
        }
        return super.visitVariable(node, p);
    }

    private static boolean isStatic(VariableTree node) {
        return node.getModifiers().getFlags().contains(Modifier.STATIC);
    }

    private boolean isOfRuleThree(TypeMirror type) {
        if (type instanceof ArrayType row) {
            return row.getComponentType().getKind().isPrimitive();
        }
        String name = type.toString();
        return type.getKind().isPrimitive() || name.equals("java.lang.String") || name.startsWith("FruitHalls");
    }

    private TypeMirror typeOf(TreePath path) {
        return trees.getTypeMirror(path);
    }

    /** Rule 4: "only what stands here". */
    @Override
    public Void visitMethodInvocation(MethodInvocationTree node, Void p) {
        Element callee = trees.getElement(getCurrentPath());
        boolean isSuper = callee.getKind() == ElementKind.CONSTRUCTOR;
        if (!isSuper) {
            String name = callee.getEnclosingElement().getSimpleName() + "." + callee.getSimpleName();
            boolean isOwn = callee.getEnclosingElement().toString().startsWith("FruitHalls");
            due.yes("rule 4: " + name + " stands there", isOwn || LIBRARY.contains(name));
            noteCall(name);
        }
        return super.visitMethodInvocation(node, p);
    }

    /** Rules 6 and 12: what is made outside of constructors is an exception that is thrown at once. */
    @Override
    public Void visitNewClass(NewClassTree node, Void p) {
        String name = node.getIdentifier().toString();
        due.yes("rule 12: " + inMethod + " makes a " + name, inThrow || inMaker || inMethod == null);
        due.yes("rule 2: " + name + " has no body", node.getClassBody() == null);
        noteCall(name + ".<init>");
        return super.visitNewClass(node, p);
    }

    /** What a field is made with is made by the constructor. */
    private void noteCall(String callee) {
        String caller = inMethod == null ? inClass.peek() + ".<init>" : inMethod;
        calls.computeIfAbsent(caller, each -> new LinkedHashSet<>()).add(callee);
    }

    @Override
    public Void visitNewArray(NewArrayTree node, Void p) {
        due.yes("rule 12: " + inMethod + " makes an array", inMaker || inMethod == null);
        for (Tree length : node.getDimensions()) {
            due.yes("rule 7: the length " + length + " is built of constants", length.toString().matches("[A-Z_* ]+"));
        }
        return super.visitNewArray(node, p);
    }

    /** Rule 6: "throw new E("a written text")", never in a constructor. */
    @Override
    public Void visitThrow(ThrowTree node, Void p) {
        boolean isWritten = node.getExpression() instanceof NewClassTree made
                && made.getIdentifier().toString().equals("NoSuchElementException")
                && made.getArguments().size() == 1 && made.getArguments().get(0) instanceof LiteralTree;
        due.yes("rule 6: " + node, isWritten && !inMaker);
        inThrow = true;
        super.visitThrow(node, p);
        inThrow = false;
        return null;
    }

    /** Rule 4: "constants, whose signs are 1 to 127". */
    @Override
    public Void visitLiteral(LiteralTree node, Void p) {
        if (node.getValue() instanceof String text) {
            due.yes("rule 4: '" + text + "'", text.chars().allMatch(sign -> sign >= 1 && sign <= 127));
        }
        return super.visitLiteral(node, p);
    }

    /** Rule 10: texts are not joined by +. Rule 6: two texts are not compared by ==. */
    @Override
    public Void visitBinary(BinaryTree node, Void p) {
        TreePath left = new TreePath(getCurrentPath(), node.getLeftOperand());
        TreePath right = new TreePath(getCurrentPath(), node.getRightOperand());
        due.yes("rules 6, 10: " + node + " is of numbers",
                typeOf(left).getKind().isPrimitive() && typeOf(right).getKind().isPrimitive());
        return super.visitBinary(node, p);
    }

    @Override
    public Void visitCompoundAssignment(CompoundAssignmentTree node, Void p) {
        due.yes("rule 10: " + node + " is of numbers", typeOf(getCurrentPath()).getKind().isPrimitive());
        return super.visitCompoundAssignment(node, p);
    }

    /** Rule 7: a cast to a number never throws. */
    @Override
    public Void visitTypeCast(TypeCastTree node, Void p) {
        due.yes("rule 7: " + node + " is a cast to a number", typeOf(getCurrentPath()).getKind().isPrimitive());
        return super.visitTypeCast(node, p);
    }

    @Override
    public Void visitTry(TryTree node, Void p) {
        due.yes("rule 6: " + inMethod + " has no try", false);
        return super.visitTry(node, p);
    }

    @Override
    public Void visitLambdaExpression(LambdaExpressionTree node, Void p) {
        due.yes("rule 2: " + inMethod + " has no lambda", false);
        return super.visitLambdaExpression(node, p);
    }

    @Override
    public Void visitMemberReference(MemberReferenceTree node, Void p) {
        due.yes("rule 2: " + inMethod + " has no method reference", false);
        return super.visitMemberReference(node, p);
    }

    @Override
    public Void visitSynchronized(SynchronizedTree node, Void p) {
        due.yes("rule 6: " + inMethod + " has no synchronized", false);
        return super.visitSynchronized(node, p);
    }

    @Override
    public Void visitAssert(AssertTree node, Void p) {
        due.yes("rule 6: " + inMethod + " has no assert", false);
        return super.visitAssert(node, p);
    }
}
