import com.sun.source.tree.AssertTree;
import com.sun.source.tree.BinaryTree;
import com.sun.source.tree.BlockTree;
import com.sun.source.tree.ClassTree;
import com.sun.source.tree.CompilationUnitTree;
import com.sun.source.tree.CompoundAssignmentTree;
import com.sun.source.tree.ImportTree;
import com.sun.source.tree.LambdaExpressionTree;
import com.sun.source.tree.MemberReferenceTree;
import com.sun.source.tree.MethodInvocationTree;
import com.sun.source.tree.MethodTree;
import com.sun.source.tree.NewArrayTree;
import com.sun.source.tree.NewClassTree;
import com.sun.source.tree.SynchronizedTree;
import com.sun.source.tree.ThrowTree;
import com.sun.source.tree.Tree;
import com.sun.source.tree.TryTree;
import com.sun.source.tree.VariableTree;
import com.sun.source.util.JavacTask;
import com.sun.source.util.TreePath;
import com.sun.source.util.TreePathScanner;
import com.sun.source.util.Trees;
import java.io.IOException;
import java.nio.charset.StandardCharsets;
import java.nio.file.Files;
import java.nio.file.Path;
import java.util.HashMap;
import java.util.HashSet;
import java.util.LinkedHashSet;
import java.util.List;
import java.util.Map;
import java.util.Set;
import javax.lang.model.element.Element;
import javax.lang.model.element.Modifier;
import javax.lang.model.type.TypeMirror;
import javax.tools.JavaCompiler;
import javax.tools.StandardJavaFileManager;
import javax.tools.ToolProvider;

/**
 * The rules of LANGUAGE.md that can be seen in the source. It is stricter than they are: what the
 * class does not use (recursion, lists, objects made by methods) is refused too, until it is needed.
 */
public final class RulesTest extends TreePathScanner<Void, Void> {
    private static final Check CHECK = new Check();
    private static final String PROGRAM = "src/main/java/BarnPictures.java";
    private static final int MOST_CLASSES = 12;
    private static final int MOST_FIELDS = 20;
    private static final int MOST_PARAMETERS = 7;
    private static final int MOST_LINES = 60;
    private static final int MOST_DEPTH = 8;
    private static final Set<String> LIBRARY = Set.of(
        "java.lang.Math.abs", "java.lang.Math.max", "java.lang.Math.min", "java.lang.System.arraycopy");
    /** Each constructor calls that of Object. */
    private static final String OBJECT = "java.lang.Object.<init>";

    private final Trees trees;
    private final Map<String, Set<String>> calls = new HashMap<>();
    private final Set<String> publicNames = new HashSet<>();
    private final Set<String> otherNames = new HashSet<>();
    private int classes = 0;

    private RulesTest(Trees trees) {
        this.trees = trees;
    }

    public static void main(String[] args) throws IOException {
        Path source = Path.of(args.length > 0 ? args[0] : PROGRAM);
        CHECK.holds("3: all signs are 1 to 127",
            Files.readString(source, StandardCharsets.UTF_8).chars().allMatch(sign -> sign >= 1 && sign <= 127));
        JavaCompiler compiler = ToolProvider.getSystemJavaCompiler();
        try (StandardJavaFileManager files = compiler.getStandardFileManager(null, null, StandardCharsets.UTF_8)) {
            JavacTask task = (JavacTask) compiler.getTask(
                null, files, null, List.of("-proc:none"), null, files.getJavaFileObjects(source));
            Iterable<? extends CompilationUnitTree> units = task.parse();
            task.analyze();
            RulesTest rules = new RulesTest(Trees.instance(task));
            for (CompilationUnitTree unit : units) {
                CHECK.holds("1: no package, one class", unit.getPackage() == null && unit.getTypeDecls().size() == 1);
                rules.scan(unit, null);
            }
            rules.wholeFile();
        }
        CHECK.end();
    }

    private void wholeFile() {
        CHECK.holds("11: " + classes + " classes are not too many", classes <= MOST_CLASSES);
        for (String name : otherNames) {
            CHECK.holds("1: no public method bears this name too: " + name, !publicNames.contains(name));
        }
        for (String method : calls.keySet()) {
            int depth = depth(method, new LinkedHashSet<>());
            CHECK.holds("11: " + method + " goes " + depth + " deep", depth <= MOST_DEPTH);
        }
    }

    /** How many calls stand open at once at the most, with this one and that of the library. */
    private int depth(String method, Set<String> open) {
        if (!open.add(method)) {
            CHECK.holds("8: recursion of " + method + ": " + open, false);
            return 0;
        }
        int deepest = 0;
        for (String called : calls.getOrDefault(method, Set.of())) {
            deepest = Math.max(deepest, depth(called, open));
        }
        open.remove(method);
        return deepest + 1;
    }

    private void refused(String rule, Tree tree) {
        CHECK.holds(rule + ": " + tree, false);
    }

    private Element element() {
        return trees.getElement(getCurrentPath());
    }

    @Override
    public Void visitImport(ImportTree tree, Void none) {
        refused("4: no library is imported", tree);
        return super.visitImport(tree, none);
    }

    @Override
    public Void visitClass(ClassTree tree, Void none) {
        classes++;
        String name = tree.getSimpleName().toString();
        Tree outside = getCurrentPath().getParentPath().getLeaf();
        Set<Modifier> modifiers = tree.getModifiers().getFlags();
        if (outside instanceof CompilationUnitTree) {
            CHECK.holds("1: public and final", modifiers.equals(Set.of(Modifier.PUBLIC, Modifier.FINAL)));
        } else {
            CHECK.holds("2: no local or anonymous class: " + name, outside instanceof ClassTree && !name.isEmpty());
            CHECK.holds("2: a static class: " + name, modifiers.contains(Modifier.STATIC));
            CHECK.holds("1: a hidden class: " + name,
                !modifiers.contains(Modifier.PUBLIC) && !modifiers.contains(Modifier.PROTECTED));
        }
        int fields = 0;
        for (Tree member : tree.getMembers()) {
            if (member instanceof VariableTree && !((VariableTree) member).getModifiers().getFlags().contains(Modifier.STATIC)) {
                fields++;
            }
            CHECK.holds("5: no initialiser block: " + name, !(member instanceof BlockTree));
        }
        CHECK.holds("11: " + fields + " fields are not too many: " + name, fields <= MOST_FIELDS);
        return super.visitClass(tree, none);
    }

    @Override
    public Void visitMethod(MethodTree tree, Void none) {
        String name = tree.getName().toString();
        Set<Modifier> modifiers = tree.getModifiers().getFlags();
        if (modifiers.contains(Modifier.PUBLIC)) {
            publicNames.add(name);
        } else if (tree.getReturnType() != null) {
            otherNames.add(name);
        }
        CHECK.holds("6: no " + name, !Set.of("equals", "hashCode", "toString").contains(name));
        CHECK.holds("11: parameters of " + name, tree.getParameters().size() <= MOST_PARAMETERS);
        CHECK.holds("11: lines of " + name, lines(tree) <= MOST_LINES);
        calls.computeIfAbsent(called(element()), key -> new LinkedHashSet<>());
        return super.visitMethod(tree, none);
    }

    private long lines(Tree tree) {
        CompilationUnitTree unit = getCurrentPath().getCompilationUnit();
        long from = trees.getSourcePositions().getStartPosition(unit, tree);
        long to = trees.getSourcePositions().getEndPosition(unit, tree);
        // A constructor that the compiler adds has no place of its own.
        return to < 0 ? 0 : unit.getLineMap().getLineNumber(to) - unit.getLineMap().getLineNumber(from) + 1;
    }

    @Override
    public Void visitVariable(VariableTree tree, Void none) {
        boolean isField = getCurrentPath().getParentPath().getLeaf() instanceof ClassTree;
        Set<Modifier> modifiers = tree.getModifiers().getFlags();
        if (isField && modifiers.contains(Modifier.STATIC)) {
            CHECK.holds("5: final: " + tree, modifiers.contains(Modifier.FINAL));
            CHECK.holds("5: a constant: " + tree,
                Set.of("int", "long", "boolean", "char", "int[]", "long[]", "char[]", "byte[]").contains(tree.getType().toString()));
        }
        return super.visitVariable(tree, none);
    }

    @Override
    public Void visitMethodInvocation(MethodInvocationTree tree, Void none) {
        notesCall(element());
        return super.visitMethodInvocation(tree, none);
    }

    @Override
    public Void visitNewClass(NewClassTree tree, Void none) {
        notesCall(element());
        isMadeAtFirst(tree);
        return super.visitNewClass(tree, none);
    }

    @Override
    public Void visitNewArray(NewArrayTree tree, Void none) {
        isMadeAtFirst(tree);
        return super.visitNewArray(tree, none);
    }

    /** All calls of a run share one room, so that only constructors make objects and arrays. */
    private void isMadeAtFirst(Tree tree) {
        CHECK.holds("12: no method makes anything: " + caller() + " has " + tree, caller().endsWith(".<init>"));
    }

    private void notesCall(Element method) {
        String called = called(method);
        if (!isOwn(method) && !called.equals(OBJECT)) {
            CHECK.holds("4: " + called + " is not of the library that is allowed", LIBRARY.contains(called));
        }
        calls.computeIfAbsent(caller(), key -> new LinkedHashSet<>()).add(called);
    }

    private String caller() {
        TreePath path = getCurrentPath();
        while (!(path.getLeaf() instanceof MethodTree) && !(path.getLeaf() instanceof ClassTree)) {
            path = path.getParentPath();
        }
        Element caller = trees.getElement(path);
        // What a field begins with is made by the constructor.
        return path.getLeaf() instanceof ClassTree ? caller + ".<init>" : called(caller);
    }

    private static String called(Element method) {
        return method.getEnclosingElement() + "." + method.getSimpleName();
    }

    private static boolean isOwn(Element method) {
        return called(method).startsWith("BarnPictures.");
    }

    @Override
    public Void visitBinary(BinaryTree tree, Void none) {
        TypeMirror type = trees.getTypeMirror(getCurrentPath());
        CHECK.holds("10: texts are not joined by +: " + tree, !type.toString().equals("java.lang.String"));
        return super.visitBinary(tree, none);
    }

    @Override
    public Void visitCompoundAssignment(CompoundAssignmentTree tree, Void none) {
        TypeMirror type = trees.getTypeMirror(getCurrentPath());
        CHECK.holds("10: texts are not joined by +=: " + tree, !type.toString().equals("java.lang.String"));
        return super.visitCompoundAssignment(tree, none);
    }

    @Override
    public Void visitLambdaExpression(LambdaExpressionTree tree, Void none) {
        refused("2: no lambda", tree);
        return super.visitLambdaExpression(tree, none);
    }

    @Override
    public Void visitMemberReference(MemberReferenceTree tree, Void none) {
        refused("2: no method reference", tree);
        return super.visitMemberReference(tree, none);
    }

    @Override
    public Void visitThrow(ThrowTree tree, Void none) {
        refused("6: no throw", tree);
        return super.visitThrow(tree, none);
    }

    @Override
    public Void visitTry(TryTree tree, Void none) {
        refused("6: no try", tree);
        return super.visitTry(tree, none);
    }

    @Override
    public Void visitSynchronized(SynchronizedTree tree, Void none) {
        refused("6: no synchronized", tree);
        return super.visitSynchronized(tree, none);
    }

    @Override
    public Void visitAssert(AssertTree tree, Void none) {
        refused("6: no assert", tree);
        return super.visitAssert(tree, none);
    }
}
