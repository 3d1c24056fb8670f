import com.sun.source.tree.AssertTree;
import com.sun.source.tree.BinaryTree;
import com.sun.source.tree.ClassTree;
import com.sun.source.tree.CompilationUnitTree;
import com.sun.source.tree.ExpressionTree;
import com.sun.source.tree.LambdaExpressionTree;
import com.sun.source.tree.LiteralTree;
import com.sun.source.tree.MemberReferenceTree;
import com.sun.source.tree.MethodInvocationTree;
import com.sun.source.tree.MethodTree;
import com.sun.source.tree.NewClassTree;
import com.sun.source.tree.SynchronizedTree;
import com.sun.source.tree.ThrowTree;
import com.sun.source.tree.Tree;
import com.sun.source.tree.TryTree;
import com.sun.source.tree.TypeCastTree;
import com.sun.source.tree.VariableTree;
import com.sun.source.util.JavacTask;
import com.sun.source.util.TreePathScanner;
import com.sun.source.util.Trees;
import java.io.IOException;
import java.nio.file.Path;
import java.util.HashMap;
import java.util.HashSet;
import java.util.LinkedHashSet;
import java.util.List;
import java.util.Map;
import java.util.Set;
import javax.lang.model.element.Element;
import javax.lang.model.element.ElementKind;
import javax.lang.model.element.ExecutableElement;
import javax.lang.model.element.Modifier;
import javax.lang.model.type.TypeMirror;
import javax.tools.JavaCompiler;
import javax.tools.StandardJavaFileManager;
import javax.tools.ToolProvider;

/**
 * The rules of ../shared/LANGUAGE.md that can be seen in the source, numbered as there. Where a rule leaves more than
 * the class uses (a library, casts, try, objects made by a call), this test leaves nothing but what it uses.
 */
public final class LanguageTest extends TreePathScanner<Void, Void> {
    private static final Path SOURCE = Path.of("src/main/java/LineFrames.java");
    private static final Set<String> EXCEPTIONS = Set.of("IllegalStateException", "IllegalArgumentException",
            "IndexOutOfBoundsException", "ArithmeticException", "UnsupportedOperationException",
            "NoSuchElementException", "RuntimeException");
    private static final Set<String> OF_MATH = Set.of("max", "min", "abs");
    private static final int MAX_CLASSES = 12;
    private static final int MAX_FIELDS = 20;
    private static final int MAX_PARAMETERS = 7;
    private static final int MAX_LINES = 60;
    private static final int MAX_DEPTH = 8;

    private final Due due = new Due("LanguageTest");
    private final Trees trees;
    private final CompilationUnitTree unit;
    private final Map<Element, Set<Element>> calls = new HashMap<>();
    private final Set<String> face = new HashSet<>();
    private final Set<String> others = new HashSet<>();
    private Element method = null;
    private int classes = 0;

    private LanguageTest(JavacTask task) throws IOException {
        trees = Trees.instance(task);
        unit = task.parse().iterator().next();
        task.analyze();
    }

    public static void main(String[] args) throws IOException {
        JavaCompiler compiler = ToolProvider.getSystemJavaCompiler();
        try (StandardJavaFileManager files = compiler.getStandardFileManager(null, null, null)) {
            JavacTask task = (JavacTask) compiler.getTask(null, files, null, List.of("-proc:none"), null,
                    files.getJavaFileObjects(SOURCE));
            new LanguageTest(task).run();
        }
    }

    private void run() {
        due.same("imports", unit.getImports().size(), 0);
        due.same("classes beside the public one", unit.getTypeDecls().size(), 1);
        if (unit.getPackage() != null) {
            due.fault("there is a package line");
        }
        scan(unit, null);
        if (classes > MAX_CLASSES) {
            due.fault("rule 11: " + classes + " classes");
        }
        due.same("methods of the face", face.size(), 17);
        others.retainAll(face);
        if (!others.isEmpty()) {
            due.fault("rule 1: other methods bear the names " + others);
        }
        for (Element one : calls.keySet()) {
            depth(one, new LinkedHashSet<>());
        }
        due.end();
    }

    private void depth(Element one, Set<Element> open) {
        if (!open.add(one)) {
            due.fault("rule 8: a recursion over " + open);
            return;
        }
        if (open.size() > MAX_DEPTH) {
            due.fault("rule 11: calls too deep: " + open);
        } else {
            calls.getOrDefault(one, Set.of()).forEach(next -> depth(next, open));
        }
        open.remove(one);
    }

    private boolean isOwn(Element e) {
        Element outer = e;
        while (outer != null && outer.getKind() != ElementKind.PACKAGE) {
            if (outer.getSimpleName().contentEquals("LineFrames")) {
                return true;
            }
            outer = outer.getEnclosingElement();
        }
        return false;
    }

    private void refuse(int rule, Tree tree) {
        long place = trees.getSourcePositions().getStartPosition(unit, tree);
        due.fault("rule " + rule + ", line " + line(place) + ": " + tree);
    }

    private long line(long position) {
        return unit.getLineMap().getLineNumber(position);
    }

    @Override
    public Void visitClass(ClassTree tree, Void nothing) {
        classes++;
        Set<Modifier> modifiers = tree.getModifiers().getFlags();
        boolean outer = tree.getSimpleName().contentEquals("LineFrames");
        boolean hidden = !modifiers.contains(Modifier.PUBLIC) && !modifiers.contains(Modifier.PROTECTED);
        if (!outer && !(hidden && modifiers.contains(Modifier.STATIC))) {
            refuse(1, tree);
        }
        long fields = tree.getMembers().stream().filter(LanguageTest::isField).count();
        if (fields > MAX_FIELDS) {
            refuse(11, tree);
        }
        return super.visitClass(tree, nothing);
    }

    private static boolean isField(Tree member) {
        return member instanceof VariableTree v && !v.getModifiers().getFlags().contains(Modifier.STATIC);
    }

    @Override
    public Void visitMethod(MethodTree tree, Void nothing) {
        long from = trees.getSourcePositions().getStartPosition(unit, tree);
        long to = trees.getSourcePositions().getEndPosition(unit, tree);
        if (tree.getParameters().size() > MAX_PARAMETERS || (to > from && line(to) - line(from) >= MAX_LINES)) {
            refuse(11, tree);
        }
        method = trees.getElement(getCurrentPath());
        if (method.getKind() == ElementKind.METHOD) {
            Set<String> names = method.getModifiers().contains(Modifier.PUBLIC) ? face : others;
            names.add(method.getSimpleName().toString());
        }
        calls.computeIfAbsent(method, one -> new LinkedHashSet<>());
        super.visitMethod(tree, nothing);
        method = null;
        return null;
    }

    @Override
    public Void visitVariable(VariableTree tree, Void nothing) {
        Element e = trees.getElement(getCurrentPath());
        boolean constant = e.getModifiers().contains(Modifier.FINAL) && e.asType().getKind().isPrimitive();
        if (e.getModifiers().contains(Modifier.STATIC) && !constant) {
            refuse(5, tree);
        }
        TypeMirror type = e.asType();
        boolean plain = type.toString().matches("int(\\[\\])?|boolean|LineFrames\\.\\w+");
        if (!plain) {
            refuse(3, tree);
        }
        return super.visitVariable(tree, nothing);
    }

    @Override
    public Void visitMethodInvocation(MethodInvocationTree tree, Void nothing) {
        Element called = trees.getElement(getCurrentPath());
        boolean ofMath = called.getEnclosingElement().toString().equals("java.lang.Math")
                && OF_MATH.contains(called.getSimpleName().toString());
        boolean superCall = called instanceof ExecutableElement && called.getKind() == ElementKind.CONSTRUCTOR;
        if (isOwn(called) && method != null) {
            calls.get(method).add(called);
        } else if (!ofMath && !superCall) {
            refuse(4, tree);
        }
        return super.visitMethodInvocation(tree, nothing);
    }

    @Override
    public Void visitNewClass(NewClassTree tree, Void nothing) {
        boolean thrown = getCurrentPath().getParentPath().getLeaf() instanceof ThrowTree;
        Element made = trees.getElement(getCurrentPath());
        if (tree.getClassBody() != null || !(thrown || isOwn(made))) {
            refuse(4, tree);
        }
        boolean inConstructor = method == null || method.getKind() == ElementKind.CONSTRUCTOR;
        // A call that makes objects would fill the room that all calls of a run share.
        if (!thrown && !inConstructor) {
            refuse(12, tree);
        }
        return super.visitNewClass(tree, nothing);
    }

    @Override
    public Void visitThrow(ThrowTree tree, Void nothing) {
        ExpressionTree thrown = tree.getExpression();
        boolean plain = thrown instanceof NewClassTree made && EXCEPTIONS.contains(made.getIdentifier().toString())
                && made.getArguments().stream().allMatch(text -> text instanceof LiteralTree);
        if (!plain || method == null || method.getKind() == ElementKind.CONSTRUCTOR) {
            refuse(6, tree);
        }
        return super.visitThrow(tree, nothing);
    }

    @Override
    public Void visitBinary(BinaryTree tree, Void nothing) {
        TypeMirror type = trees.getTypeMirror(getCurrentPath());
        if (!type.getKind().isPrimitive()) {
            refuse(10, tree);
        }
        return super.visitBinary(tree, nothing);
    }

    @Override
    public Void visitTypeCast(TypeCastTree tree, Void nothing) {
        refuse(6, tree);
        return super.visitTypeCast(tree, nothing);
    }

    @Override
    public Void visitTry(TryTree tree, Void nothing) {
        refuse(6, tree);
        return super.visitTry(tree, nothing);
    }

    @Override
    public Void visitSynchronized(SynchronizedTree tree, Void nothing) {
        refuse(6, tree);
        return super.visitSynchronized(tree, nothing);
    }

    @Override
    public Void visitAssert(AssertTree tree, Void nothing) {
        refuse(6, tree);
        return super.visitAssert(tree, nothing);
    }

    @Override
    public Void visitLambdaExpression(LambdaExpressionTree tree, Void nothing) {
        refuse(2, tree);
        return super.visitLambdaExpression(tree, nothing);
    }

    @Override
    public Void visitMemberReference(MemberReferenceTree tree, Void nothing) {
        refuse(2, tree);
        return super.visitMemberReference(tree, nothing);
    }
}
