import com.sun.source.tree.AssignmentTree;
import com.sun.source.tree.BinaryTree;
import com.sun.source.tree.CompilationUnitTree;
import com.sun.source.tree.MethodInvocationTree;
import com.sun.source.tree.MethodTree;
import com.sun.source.tree.NewClassTree;
import com.sun.source.tree.Tree;
import com.sun.source.tree.TypeCastTree;
import com.sun.source.tree.VariableTree;
import com.sun.source.util.JavacTask;
import com.sun.source.util.TreePath;
import com.sun.source.util.TreePathScanner;
import com.sun.source.util.Trees;
import java.nio.file.Path;
import java.util.ArrayList;
import java.util.HashSet;
import java.util.List;
import java.util.Map;
import java.util.Set;
import java.util.TreeMap;
import java.util.TreeSet;
import javax.lang.model.element.Element;
import javax.lang.model.element.Modifier;
import javax.tools.JavaCompiler;
import javax.tools.StandardJavaFileManager;
import javax.tools.ToolProvider;

/** The rules of LANGUAGE.md that the compiler's tree of the class shows. */
public final class CallsTest extends TreePathScanner<Void, Void> {
    /** Kinds of trees that no rule leaves: each stands for what may not be written. */
    private static final Set<Tree.Kind> BARRED = Set.of(Tree.Kind.THROW, Tree.Kind.TRY, Tree.Kind.CATCH,
        Tree.Kind.SYNCHRONIZED, Tree.Kind.ASSERT, Tree.Kind.LAMBDA_EXPRESSION, Tree.Kind.MEMBER_REFERENCE,
        Tree.Kind.SWITCH_EXPRESSION, Tree.Kind.YIELD, Tree.Kind.ANNOTATION, Tree.Kind.PACKAGE);
    private static final Set<String> TYPES = Set.of("int", "long", "boolean", "char", "int[]", "long[]", "boolean[]",
        "char[]", "byte[]", "java.lang.String", "java.lang.StringBuilder");
    /** What the class uses now; LANGUAGE.md leaves more. */
    private static final Set<String> LIBRARY = Set.of("java.lang.String.charAt(int)", "java.lang.Integer.bitCount(int)",
        "java.lang.Integer.numberOfTrailingZeros(int)", "java.lang.Long.compare(long,long)", "java.lang.Math.max(int,int)",
        "java.lang.Math.min(int,int)", "java.lang.Math.min(long,long)", "java.util.Arrays.copyOf(int[],int)",
        "java.util.Arrays.fill(int[],int)", "java.util.Arrays.fill(long[],int,int,long)",
        "java.lang.System.arraycopy(java.lang.Object,int,java.lang.Object,int,int)", "java.lang.Object.Object()");
    private static final int DEEPEST = 8;

    private final CompilationUnitTree unit;
    private final Trees trees;
    private final Map<String, Set<String>> calls = new TreeMap<>();
    private final Set<String> hidden = new HashSet<>();
    private String method = "";
    private int wrong = 0;
    private int seen = 0;

    private CallsTest(CompilationUnitTree unit, Trees trees) {
        this.unit = unit;
        this.trees = trees;
    }

    public static void main(String[] args) throws Exception {
        JavaCompiler compiler = ToolProvider.getSystemJavaCompiler();
        StandardJavaFileManager files = compiler.getStandardFileManager(null, null, null);
        JavacTask task = (JavacTask) compiler.getTask(null, files, null, List.of("-proc:none"), null,
            files.getJavaFileObjects(Path.of("src/main/java/IllTonight.java")));
        CompilationUnitTree unit = task.parse().iterator().next();
        task.analyze();
        CallsTest test = new CallsTest(unit, Trees.instance(task));
        test.scan(unit, null);
        test.look();
        System.out.println(test.wrong == 0 ? test.calls.size() + " methods keep the rules" : test.wrong + " breaches");
        if (test.wrong != 0 || test.seen == 0) {
            System.exit(1);
        }
    }

    private void must(boolean so, Tree at, String rule) {
        seen++;
        if (!so) {
            wrong++;
            long line = at == null ? 0 : unit.getLineMap().getLineNumber(trees.getSourcePositions().getStartPosition(unit, at));
            System.out.println("broken in line " + line + ": " + rule);
        }
    }

    private Element here() {
        return trees.getElement(getCurrentPath());
    }

    private static String name(Element method) {
        return method.getEnclosingElement().getSimpleName() + "." + method.getSimpleName();
    }

    private static boolean isOwn(String type) {
        return type.startsWith("IllTonight");
    }

    @Override
    public Void scan(Tree tree, Void none) {
        if (tree != null) {
            must(!BARRED.contains(tree.getKind()), tree, "no " + tree.getKind());
        }
        return super.scan(tree, none);
    }

    @Override
    public Void visitMethod(MethodTree tree, Void none) {
        Element one = here();
        method = name(one);
        calls.computeIfAbsent(method, k -> new TreeSet<>());
        if (one.getModifiers().contains(Modifier.PRIVATE)) {
            hidden.add(method);
        }
        must(tree.getThrows().isEmpty(), tree, "no throws");
        super.visitMethod(tree, none);
        method = "";
        return null;
    }

    @Override
    public Void visitMethodInvocation(MethodInvocationTree tree, Void none) {
        Element one = here();
        String owner = one.getEnclosingElement().toString();
        if (isOwn(owner)) {
            calls.computeIfAbsent(method, k -> new TreeSet<>()).add(name(one));
        } else {
            must(LIBRARY.contains(owner + "." + one) || one.getSimpleName().contentEquals("<init>"), tree,
                "the library's " + owner + "." + one);
        }
        return super.visitMethodInvocation(tree, none);
    }

    @Override
    public Void visitNewClass(NewClassTree tree, Void none) {
        must(tree.getClassBody() == null, tree, "no anonymous class");
        calls.computeIfAbsent(method, k -> new TreeSet<>()).add(name(here()));
        must(isOwn(here().getEnclosingElement().toString()), tree, "new " + tree.getIdentifier());
        for (TreePath path = getCurrentPath(); path != null; path = path.getParentPath()) {
            Tree.Kind kind = path.getLeaf().getKind();
            must(kind != Tree.Kind.FOR_LOOP && kind != Tree.Kind.WHILE_LOOP && kind != Tree.Kind.DO_WHILE_LOOP, tree,
                "no object is made in a loop here");
        }
        return super.visitNewClass(tree, none);
    }

    @Override
    public Void visitVariable(VariableTree tree, Void none) {
        String type = String.valueOf(trees.getTypeMirror(getCurrentPath()));
        must(TYPES.contains(type) || isOwn(type) && !type.endsWith("[][]"), tree, "the type " + type);
        return super.visitVariable(tree, none);
    }

    @Override
    public Void visitTypeCast(TypeCastTree tree, Void none) {
        must(Set.of("int", "long", "char").contains(tree.getType().toString()), tree, "a cast to " + tree.getType());
        return super.visitTypeCast(tree, none);
    }

    @Override
    public Void visitBinary(BinaryTree tree, Void none) {
        String left = typeOf(tree.getLeftOperand());
        String right = typeOf(tree.getRightOperand());
        must(!left.endsWith("String") && !right.endsWith("String"), tree, "texts are neither joined nor compared by signs");
        return super.visitBinary(tree, none);
    }

    /** A constant array is never changed, so nothing is put into one whose name is in capitals. */
    @Override
    public Void visitAssignment(AssignmentTree tree, Void none) {
        String target = tree.getVariable().toString();
        must(!target.matches("(\\w+\\.)?[A-Z][A-Z_]+(\\[.*)?"), tree, target + " is a constant");
        return super.visitAssignment(tree, none);
    }

    private String typeOf(Tree tree) {
        return String.valueOf(trees.getTypeMirror(new TreePath(getCurrentPath(), tree)));
    }

    private void look() {
        Set<String> called = new TreeSet<>();
        calls.values().forEach(called::addAll);
        for (String one : calls.keySet()) {
            if (reaches(one, one, new HashSet<>())) {
                must(hidden.contains(one), null, one + " calls itself, so it must be private");
            }
            must(!hidden.contains(one) || called.contains(one), null, one + " is never called");
            List<String> way = deepest(one, new HashSet<>());
            must(way.size() <= DEEPEST, null, "calls go too deep: " + way);
        }
    }

    private boolean reaches(String from, String to, Set<String> passed) {
        for (String next : calls.getOrDefault(from, Set.of())) {
            if (next.equals(to) || passed.add(next) && reaches(next, to, passed)) {
                return true;
            }
        }
        return false;
    }

    /** The longest row of calls in which none stands twice. */
    private List<String> deepest(String from, Set<String> open) {
        List<String> best = new ArrayList<>();
        open.add(from);
        for (String next : calls.getOrDefault(from, Set.of())) {
            if (!open.contains(next)) {
                List<String> way = deepest(next, open);
                best = way.size() > best.size() ? way : best;
            }
        }
        open.remove(from);
        best.add(0, from);
        return best;
    }
}
