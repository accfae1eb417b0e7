import com.sun.source.tree.ArrayAccessTree;
import com.sun.source.tree.AssignmentTree;
import com.sun.source.tree.ClassTree;
import com.sun.source.tree.CompilationUnitTree;
import com.sun.source.tree.CompoundAssignmentTree;
import com.sun.source.tree.DoWhileLoopTree;
import com.sun.source.tree.ExpressionTree;
import com.sun.source.tree.ForLoopTree;
import com.sun.source.tree.MethodInvocationTree;
import com.sun.source.tree.MethodTree;
import com.sun.source.tree.NewClassTree;
import com.sun.source.tree.Tree;
import com.sun.source.tree.UnaryTree;
import com.sun.source.tree.VariableTree;
import com.sun.source.tree.WhileLoopTree;
import com.sun.source.util.JavacTask;
import com.sun.source.util.TreePath;
import com.sun.source.util.TreePathScanner;
import com.sun.source.util.Trees;
import java.io.IOException;
import java.nio.file.Path;
import java.util.List;
import java.util.Map;
import java.util.Set;
import java.util.TreeMap;
import java.util.TreeSet;
import java.util.regex.Matcher;
import java.util.regex.Pattern;
import javax.lang.model.element.Element;
import javax.lang.model.element.ElementKind;
import javax.lang.model.element.Modifier;
import javax.tools.JavaCompiler;
import javax.tools.StandardJavaFileManager;
import javax.tools.ToolProvider;

/** Those rules of LANGUAGE.md that the compiler's tree of the class shows: types, loops, static fields, who calls whom. */
public final class LanguageTreeTest extends TreePathScanner<Void, Void> {
    private static final Path SOURCE = Path.of("src/main/java/StyleFamilies.java");
    private static final int DEEPEST = 8;
    private static final Set<String> LIBRARY = Set.of("System.arraycopy", "Integer.bitCount", "Math.min", "Math.max");
    private static final Set<String> TYPES = Set.of(
        "int", "long", "short", "byte", "char", "boolean", "int[]", "long[]", "short[]", "byte[]", "char[]", "boolean[]", "int[][]");
    private static final Set<String> CONSTANT_TYPES = Set.of(
        "int", "long", "boolean", "char", "java.lang.String", "int[]", "long[]", "char[]", "byte[]");
    private static final Set<Tree.Kind> FORBIDDEN = Set.of(
        Tree.Kind.THROW, Tree.Kind.TRY, Tree.Kind.CATCH, Tree.Kind.SYNCHRONIZED, Tree.Kind.ASSERT,
        Tree.Kind.LAMBDA_EXPRESSION, Tree.Kind.MEMBER_REFERENCE, Tree.Kind.IMPORT, Tree.Kind.PACKAGE);

    private final Due due = new Due();
    private final Trees trees;
    private final Map<String, Set<String>> calls = new TreeMap<>();

    private LanguageTreeTest(Trees trees) {
        this.trees = trees;
    }

    public static void main(String[] args) throws IOException {
        JavaCompiler compiler = ToolProvider.getSystemJavaCompiler();
        try (StandardJavaFileManager files = compiler.getStandardFileManager(null, null, null)) {
            JavacTask task = (JavacTask) compiler.getTask(null, files, null, null, null, files.getJavaFileObjects(SOURCE));
            Iterable<? extends CompilationUnitTree> units = task.parse();
            task.analyze();
            LanguageTreeTest test = new LanguageTreeTest(Trees.instance(task));
            test.scan(units, null);
            test.depths();
            test.due.end();
        }
    }

    @Override
    public Void scan(Tree tree, Void nothing) {
        if (tree != null) {
            due.isTrue("2, 6: " + tree.getKind() + " " + tree, !FORBIDDEN.contains(tree.getKind()));
        }
        return super.scan(tree, nothing);
    }

    // ---- types and static fields

    @Override
    public Void visitVariable(VariableTree variable, Void nothing) {
        String type = element(getCurrentPath()).asType().toString();
        if (variable.getModifiers().getFlags().contains(Modifier.STATIC)) {
            constant(variable, type);
        } else {
            due.isTrue("3: type of " + variable, TYPES.contains(type) || type.startsWith("StyleFamilies."));
        }
        return super.visitVariable(variable, nothing);
    }

    private void constant(VariableTree variable, String type) {
        due.isTrue("5: final: " + variable, variable.getModifiers().getFlags().contains(Modifier.FINAL));
        due.isTrue("5: type of " + variable, CONSTANT_TYPES.contains(type));
        ExpressionTree first = variable.getInitializer();
        due.isTrue("5: written out: " + variable, first != null
            && (!type.endsWith("[]") || first.toString().replace("\n", "").matches("(new \\w+\\[\\])?\\{.*\\}")));
    }

    @Override
    public Void visitAssignment(AssignmentTree assignment, Void nothing) {
        changed(assignment.getVariable());
        return super.visitAssignment(assignment, nothing);
    }

    @Override
    public Void visitCompoundAssignment(CompoundAssignmentTree assignment, Void nothing) {
        changed(assignment.getVariable());
        return super.visitCompoundAssignment(assignment, nothing);
    }

    @Override
    public Void visitUnary(UnaryTree unary, Void nothing) {
        if (unary.getKind().toString().contains("CREMENT")) {
            changed(unary.getExpression());
        }
        return super.visitUnary(unary, nothing);
    }

    private void changed(ExpressionTree target) {
        if (target instanceof ArrayAccessTree access) {
            Element array = trees.getElement(new TreePath(getCurrentPath(), access.getExpression()));
            due.isTrue("5: an array that is never changed: " + target, array == null || !array.getModifiers().contains(Modifier.STATIC));
        }
    }

    @Override
    public Void visitMethod(MethodTree method, Void nothing) {
        due.isTrue("11: parameters of " + method.getName(), method.getParameters().size() <= 7);
        return super.visitMethod(method, nothing);
    }

    // ---- loops: all are of the kind whose end can be seen in the first line

    @Override
    public Void visitWhileLoop(WhileLoopTree loop, Void nothing) {
        Matcher counter = Pattern.compile("\\((\\w+) < .*").matcher(loop.getCondition().toString());
        due.isTrue("9: a bound: " + loop, counter.matches()
            && loop.getStatement().toString().matches("(?s)\\{\\s*" + counter.group(1) + "\\+\\+;\\s*\\}"));
        return super.visitWhileLoop(loop, nothing);
    }

    @Override
    public Void visitDoWhileLoop(DoWhileLoopTree loop, Void nothing) {
        due.isTrue("9: a bound: " + loop, false);
        return super.visitDoWhileLoop(loop, nothing);
    }

    @Override
    public Void visitForLoop(ForLoopTree loop, Void nothing) {
        String name = loop.getInitializer().size() == 1 && loop.getInitializer().get(0) instanceof VariableTree counter
            ? counter.getName().toString() : "?";
        due.isTrue("9: a bound for " + name + ": " + loop.getCondition(),
            loop.getCondition() != null && loop.getCondition().toString().startsWith(name + " < "));
        due.isTrue("9: " + name + " goes up: " + loop.getUpdate(),
            loop.getUpdate().size() == 1 && loop.getUpdate().get(0).toString().equals(name + "++;"));
        due.isTrue("9: nothing else changes " + name,
            !loop.getStatement().toString().matches("(?s).*\\b" + name + "(\\+\\+|--| [-+*/|&^]?= ).*"));
        return super.visitForLoop(loop, nothing);
    }

    // ---- who calls whom

    @Override
    public Void visitMethodInvocation(MethodInvocationTree call, Void nothing) {
        // Where a constructor begins, the compiler puts in the call of the one above.
        if (!call.getMethodSelect().toString().equals("super")) {
            called(element(getCurrentPath()));
        }
        return super.visitMethodInvocation(call, nothing);
    }

    @Override
    public Void visitNewClass(NewClassTree made, Void nothing) {
        called(element(getCurrentPath()));
        return super.visitNewClass(made, nothing);
    }

    private void called(Element callee) {
        Element home = callee.getEnclosingElement();
        if (home.toString().startsWith("StyleFamilies")) {
            calls.computeIfAbsent(caller(), name -> new TreeSet<>()).add(home + "." + callee);
        } else {
            String name = home.getSimpleName() + "." + callee.getSimpleName();
            due.isTrue("4: " + name, LIBRARY.contains(name) && home.toString().startsWith("java.lang."));
        }
    }

    /** The method around this place; what stands in a field's first value is done by the constructor. */
    private String caller() {
        for (TreePath path = getCurrentPath(); path != null; path = path.getParentPath()) {
            if (path.getLeaf() instanceof MethodTree) {
                Element method = element(path);
                return method.getEnclosingElement() + "." + method;
            }
            if (path.getLeaf() instanceof ClassTree) {
                List<? extends Element> inside = element(path).getEnclosedElements();
                Element constructor = inside.stream().filter(e -> e.getKind() == ElementKind.CONSTRUCTOR).findFirst().orElseThrow();
                return constructor.getEnclosingElement() + "." + constructor;
            }
        }
        throw new IllegalStateException("outside of every class");
    }

    private Element element(TreePath path) {
        return trees.getElement(path);
    }

    private void depths() {
        due.isTrue("calls are found", calls.size() > 60);
        for (String method : calls.keySet()) {
            int depth = depth(method, 1);
            due.isTrue("8, 11: " + method + " goes " + depth + " deep", depth <= DEEPEST);
        }
    }

    /** How many calls stand open at once; a circle of calls ends beyond the deepest. */
    private int depth(String method, int level) {
        int deepest = level;
        if (level <= DEEPEST) {
            for (String callee : calls.getOrDefault(method, Set.of())) {
                deepest = Math.max(deepest, depth(callee, level + 1));
            }
        }
        return deepest;
    }
}
