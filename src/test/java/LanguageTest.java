import com.sun.source.tree.BlockTree;
import com.sun.source.tree.ClassTree;
import com.sun.source.tree.CompilationUnitTree;
import com.sun.source.tree.ForLoopTree;
import com.sun.source.tree.MethodInvocationTree;
import com.sun.source.tree.MethodTree;
import com.sun.source.tree.NewClassTree;
import com.sun.source.tree.Tree;
import com.sun.source.tree.VariableTree;
import com.sun.source.util.JavacTask;
import com.sun.source.util.TreePath;
import com.sun.source.util.TreePathScanner;
import com.sun.source.util.Trees;
import java.io.IOException;
import java.nio.file.Path;
import java.util.EnumSet;
import java.util.HashMap;
import java.util.List;
import java.util.Map;
import java.util.Set;
import java.util.TreeSet;
import javax.lang.model.element.Element;
import javax.lang.model.element.ExecutableElement;
import javax.lang.model.element.Modifier;
import javax.tools.JavaCompiler;
import javax.tools.StandardJavaFileManager;
import javax.tools.ToolProvider;

/** What LANGUAGE.md asks of the program, as far as the compiler's own tree of it shows. */
public final class LanguageTest {
    private static final Due due = new Due("LanguageTest");

    private static final int MOST_CLASSES = 12;
    private static final int MOST_FIELDS = 20;
    private static final int MOST_PARAMETERS = 7;
    private static final int MOST_LINES = 60;
    private static final int DEEPEST_CALL = 8;

    /** Kinds that the rules forbid, or that the program does without so that they need no look. */
    private static final Set<Tree.Kind> FORBIDDEN = EnumSet.of(
            Tree.Kind.LAMBDA_EXPRESSION, Tree.Kind.MEMBER_REFERENCE, Tree.Kind.TRY, Tree.Kind.CATCH,
            Tree.Kind.SYNCHRONIZED, Tree.Kind.ASSERT, Tree.Kind.WHILE_LOOP, Tree.Kind.DO_WHILE_LOOP,
            Tree.Kind.INSTANCE_OF, Tree.Kind.ANNOTATION, Tree.Kind.STRING_LITERAL, Tree.Kind.DOUBLE_LITERAL,
            Tree.Kind.FLOAT_LITERAL, Tree.Kind.SWITCH_EXPRESSION, Tree.Kind.EXPORTS, Tree.Kind.PACKAGE);

    private static final Set<String> LIBRARY = Set.of(
            "Math.max", "Math.min", "Math.abs", "Integer.bitCount", "Long.bitCount", "Long.numberOfTrailingZeros",
            "System.arraycopy", "Object.<init>", "NoSuchElementException.<init>");

    private final Trees trees;
    private final CompilationUnitTree unit;
    private final Map<String, Set<String>> calls = new HashMap<>();
    private final Map<String, Integer> depths = new HashMap<>();
    private int classes = 0;

    private LanguageTest(Trees trees, CompilationUnitTree unit) {
        this.trees = trees;
        this.unit = unit;
    }

    public static void main(String[] args) throws IOException {
        JavaCompiler compiler = ToolProvider.getSystemJavaCompiler();
        if (compiler == null) {
            System.out.println("LanguageTest: this java has no compiler inside to read the class with");
            return;
        }
        try (StandardJavaFileManager files = compiler.getStandardFileManager(null, null, null)) {
            JavacTask task = (JavacTask) compiler.getTask(null, files, null, List.of("-proc:none"), null,
                    files.getJavaFileObjects(Path.of("src/main/java/CliffCars.java")));
            CompilationUnitTree unit = task.parse().iterator().next();
            task.analyze();
            new LanguageTest(Trees.instance(task), unit).look();
        }
        due.finish();
    }

    private void look() {
        due.is("rule 1: types in the file", unit.getTypeDecls().size(), 1);
        due.is("rule 1: no package line", unit.getPackageName() == null, true);
        new Looker().scan(unit, null);
        due.is("rule 11: classes " + classes, classes > 1 && classes <= MOST_CLASSES, true);
        for (String method : calls.keySet()) {
            int depth = depthOf(method, new TreeSet<>());
            due.is("rule 11: calls below " + method + " go " + depth + " deep", depth <= DEEPEST_CALL, true);
        }
    }

    /** The program has no recursion at all, so that no guard on a depth is due (rule 8). */
    private int depthOf(String method, Set<String> open) {
        if (!open.add(method)) {
            due.is("rule 8: recursion by " + open, true, false);
            return 0;
        }
        Integer known = depths.get(method);
        int depth = 0;
        if (known == null) {
            for (String called : calls.getOrDefault(method, Set.of())) {
                depth = Math.max(depth, depthOf(called, open));
            }
            known = depth + 1;
            depths.put(method, known);
        }
        open.remove(method);
        return known;
    }

    private static String nameOf(Element method) {
        return method.getEnclosingElement().getSimpleName() + "." + method;
    }

    private static boolean isOwn(Element element) {
        for (Element e = element; e != null; e = e.getEnclosingElement()) {
            if (e.getSimpleName().contentEquals("CliffCars")) {
                return true;
            }
        }
        return false;
    }

    private final class Looker extends TreePathScanner<Void, Void> {
        @Override
        public Void scan(Tree tree, Void nothing) {
            if (tree != null) {
                due.is("rules 2 to 6: " + tree.getKind() + " at line " + line(tree),
                        FORBIDDEN.contains(tree.getKind()), false);
            }
            return super.scan(tree, nothing);
        }

        private long line(Tree tree) {
            return unit.getLineMap().getLineNumber(trees.getSourcePositions().getStartPosition(unit, tree));
        }

        private long lastLine(Tree tree) {
            return unit.getLineMap().getLineNumber(trees.getSourcePositions().getEndPosition(unit, tree));
        }

        @Override
        public Void visitClass(ClassTree tree, Void nothing) {
            classes++;
            boolean isOuter = getCurrentPath().getParentPath().getLeaf() == unit;
            Set<Modifier> modifiers = tree.getModifiers().getFlags();
            due.is("rule 2: " + tree.getSimpleName() + " is static", isOuter || modifiers.contains(Modifier.STATIC), true);
            int fields = 0;
            for (Tree member : tree.getMembers()) {
                due.is("rule 5: no block of " + tree.getSimpleName(), member instanceof BlockTree, false);
                if (member instanceof VariableTree field) {
                    fields += isStatic(field) ? 0 : 1;
                    checkField(field);
                }
            }
            due.is("rule 11: fields of " + tree.getSimpleName(), fields <= MOST_FIELDS, true);
            return super.visitClass(tree, nothing);
        }

        private boolean isStatic(VariableTree field) {
            return field.getModifiers().getFlags().contains(Modifier.STATIC);
        }

        private void checkField(VariableTree field) {
            Set<Modifier> modifiers = field.getModifiers().getFlags();
            boolean isConstant = modifiers.contains(Modifier.FINAL)
                    && Set.of("int", "long").contains(field.getType().toString());
            due.is("rule 5: " + field.getName() + " is a constant, if static", !isStatic(field) || isConstant, true);
        }

        @Override
        public Void visitMethod(MethodTree tree, Void nothing) {
            String name = nameOf(trees.getElement(getCurrentPath()));
            calls.computeIfAbsent(name, n -> new TreeSet<>());
            due.is("rule 11: parameters of " + name, tree.getParameters().size() <= MOST_PARAMETERS, true);
            due.is("rule 11: lines of " + name, lastLine(tree) - line(tree) < MOST_LINES, true);
            return super.visitMethod(tree, nothing);
        }

        @Override
        public Void visitMethodInvocation(MethodInvocationTree tree, Void nothing) {
            called(trees.getElement(new TreePath(getCurrentPath(), tree.getMethodSelect())));
            return super.visitMethodInvocation(tree, nothing);
        }

        @Override
        public Void visitNewClass(NewClassTree tree, Void nothing) {
            called(trees.getElement(getCurrentPath()));
            due.is("rule 2: no class without a name at line " + line(tree), tree.getClassBody() == null, true);
            return super.visitNewClass(tree, nothing);
        }

        private void called(Element method) {
            if (isOwn(method)) {
                calls.computeIfAbsent(caller(), n -> new TreeSet<>()).add(nameOf(method));
                return;
            }
            String name = method.getEnclosingElement().getSimpleName() + "." + method.getSimpleName();
            due.is("rule 4: " + name, LIBRARY.contains(name), true);
        }

        private String caller() {
            for (TreePath path = getCurrentPath(); path != null; path = path.getParentPath()) {
                if (trees.getElement(path) instanceof ExecutableElement && path.getLeaf() instanceof MethodTree) {
                    return nameOf(trees.getElement(path));
                }
            }
            return "a field's first value";
        }

        /** A counter that the loop's own head moves against a bound. */
        @Override
        public Void visitForLoop(ForLoopTree tree, Void nothing) {
            boolean counts = tree.getCondition() != null && tree.getInitializer().size() == 1
                    && tree.getUpdate().size() == 1
                    && tree.getInitializer().get(0) instanceof VariableTree counter
                    && moves(counter.getName().toString(), tree.getUpdate().get(0).toString())
                    && tree.getCondition().toString().startsWith(counter.getName() + " ");
            due.is("rule 9: the loop's end at line " + line(tree), counts, true);
            return super.visitForLoop(tree, nothing);
        }

        private boolean moves(String counter, String update) {
            return Set.of(counter + "++", counter + "--", counter + " -= 8").contains(update.replace(";", ""));
        }
    }
}
