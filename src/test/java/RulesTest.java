import com.sun.source.tree.BinaryTree;
import com.sun.source.tree.BlockTree;
import com.sun.source.tree.ClassTree;
import com.sun.source.tree.CompilationUnitTree;
import com.sun.source.tree.DoWhileLoopTree;
import com.sun.source.tree.EnhancedForLoopTree;
import com.sun.source.tree.ExpressionTree;
import com.sun.source.tree.ForLoopTree;
import com.sun.source.tree.MethodInvocationTree;
import com.sun.source.tree.MethodTree;
import com.sun.source.tree.NewClassTree;
import com.sun.source.tree.Tree;
import com.sun.source.tree.VariableTree;
import com.sun.source.tree.WhileLoopTree;
import com.sun.source.util.JavacTask;
import com.sun.source.util.TreePath;
import com.sun.source.util.TreePathScanner;
import com.sun.source.util.TreeScanner;
import com.sun.source.util.Trees;
import java.io.File;
import java.util.ArrayList;
import java.util.HashSet;
import java.util.List;
import java.util.Map;
import java.util.Set;
import java.util.TreeMap;
import java.util.TreeSet;
import javax.lang.model.element.Element;
import javax.lang.model.element.ExecutableElement;
import javax.lang.model.element.Modifier;
import javax.lang.model.type.ArrayType;
import javax.lang.model.type.TypeKind;
import javax.lang.model.type.TypeMirror;
import javax.tools.JavaCompiler;
import javax.tools.StandardJavaFileManager;
import javax.tools.ToolProvider;

/** LANGUAGE.md as the compiler sees the class: what it is made of, what it calls and how deep, how its loops end. */
public final class RulesTest extends TreePathScanner<Void, Void> {
    private static final Due DUE = new Due("RulesTest");
    // Of rule 4 what the class needs; whoever needs more adds it from there.
    private static final Set<String> LIBRARY = Set.of("java.lang.String.length", "java.lang.String.charAt",
        "java.lang.String.indexOf", "java.lang.Math.max", "java.lang.Math.min", "java.lang.Math.abs",
        "java.lang.Math.floorMod", "java.lang.Integer.bitCount");
    private static final Set<Tree.Kind> FORBIDDEN = Set.of(Tree.Kind.LAMBDA_EXPRESSION, Tree.Kind.MEMBER_REFERENCE,
        Tree.Kind.THROW, Tree.Kind.TRY, Tree.Kind.SYNCHRONIZED, Tree.Kind.ASSERT);
    // These two carry how many ( and not are open, and go no deeper than eight.
    private static final Set<String> RECURSIVE = Set.of("Parser.parseCase", "Parser.parseEither");

    private final Trees trees;
    private final CompilationUnitTree unit;
    private final Map<String, Set<String>> calls = new TreeMap<>();
    private final Set<String> classes = new TreeSet<>();
    private String method = "";

    private RulesTest(Trees trees, CompilationUnitTree unit) {
        this.trees = trees;
        this.unit = unit;
    }

    public static void main(String[] args) throws Exception {
        File source = new File(System.getProperty("source", "src/main/java/MockParcels.java"));
        JavaCompiler compiler = ToolProvider.getSystemJavaCompiler();
        try (StandardJavaFileManager files = compiler.getStandardFileManager(null, null, null)) {
            JavacTask task = (JavacTask) compiler.getTask(null, files, null, List.of("-proc:none"), null,
                files.getJavaFileObjects(source));
            CompilationUnitTree unit = task.parse().iterator().next();
            task.analyze();
            RulesTest rules = new RulesTest(Trees.instance(task), unit);
            rules.scan(unit, null);
            rules.wholeFile();
        }
        DUE.end();
    }

    private void wholeFile() {
        DUE.is("no package, no import", unit.getPackageName() == null && unit.getImports().isEmpty(), true);
        DUE.is("one class that holds all", unit.getTypeDecls().size(), 1);
        DUE.is("some twelve classes: " + classes, classes.size() <= 12, true);
        Set<String> again = new TreeSet<>();
        for (String one : calls.keySet()) {
            if (reaches(one, one, new HashSet<>())) {
                again.add(one);
            }
            List<String> way = deepest(one, new ArrayList<>());
            DUE.is("at most eight deep: " + way, way.size() <= 8, true);
        }
        DUE.is("recursive: " + again, again.equals(RECURSIVE), true);
    }

    private boolean reaches(String from, String to, Set<String> seen) {
        for (String next : calls.getOrDefault(from, Set.of())) {
            if (next.equals(to) || seen.add(next) && reaches(next, to, seen)) {
                return true;
            }
        }
        return false;
    }

    /** The longest way down that goes through no method twice, the library's methods too. */
    private List<String> deepest(String from, List<String> above) {
        List<String> way = new ArrayList<>(above);
        way.add(from);
        List<String> best = way;
        for (String next : calls.getOrDefault(from, Set.of())) {
            if (!way.contains(next)) {
                List<String> longer = deepest(next, way);
                best = longer.size() > best.size() ? longer : best;
            }
        }
        return best;
    }

    @Override
    public Void scan(Tree tree, Void none) {
        if (tree != null && FORBIDDEN.contains(tree.getKind())) {
            DUE.is("rules 2 and 6 leave it out: " + tree, true, false);
        }
        return super.scan(tree, none);
    }

    @Override
    public Void visitClass(ClassTree tree, Void none) {
        classes.add(tree.getSimpleName().toString());
        Set<Modifier> flags = tree.getModifiers().getFlags();
        boolean outer = tree.getSimpleName().contentEquals("MockParcels");
        DUE.is("final, and static inside: " + tree.getSimpleName(),
            flags.contains(Modifier.FINAL) && (outer || flags.contains(Modifier.STATIC)), true);
        DUE.is("extends nothing: " + tree.getSimpleName(),
            tree.getExtendsClause() == null && tree.getImplementsClause().isEmpty(), true);
        int fields = 0;
        for (Tree member : tree.getMembers()) {
            DUE.is("no initialiser block", member instanceof BlockTree, false);
            if (member instanceof VariableTree field) {
                Set<Modifier> its = field.getModifiers().getFlags();
                fields += its.contains(Modifier.STATIC) ? 0 : 1;
                DUE.is("a static field is final: " + field.getName(),
                    !its.contains(Modifier.STATIC) || its.contains(Modifier.FINAL), true);
            }
        }
        DUE.is("some twenty fields: " + tree.getSimpleName(), fields <= 20, true);
        return super.visitClass(tree, none);
    }

    @Override
    public Void visitMethod(MethodTree tree, Void none) {
        String above = method;
        method = nameOf(trees.getElement(getCurrentPath()));
        calls.putIfAbsent(method, new TreeSet<>());
        DUE.is("at most seven parameters: " + method, tree.getParameters().size() <= 7, true);
        long from = unit.getLineMap().getLineNumber(trees.getSourcePositions().getStartPosition(unit, tree));
        // A constructor that is not written has no end.
        long end = trees.getSourcePositions().getEndPosition(unit, tree);
        long to = end < 0 ? from : unit.getLineMap().getLineNumber(end);
        DUE.is("some sixty lines: " + method, to - from < 60, true);
        super.visitMethod(tree, none);
        method = above;
        return null;
    }

    private static String nameOf(Element e) {
        return e.getEnclosingElement().getSimpleName() + "." + e.getSimpleName();
    }

    @Override
    public Void visitMethodInvocation(MethodInvocationTree tree, Void none) {
        ExecutableElement e = (ExecutableElement) trees.getElement(getCurrentPath());
        String owner = e.getEnclosingElement().toString();
        if (owner.startsWith("MockParcels")) {
            call(nameOf(e));
        } else if (e.getSimpleName().contentEquals("<init>")) {
            DUE.is("the machine's own constructor: " + owner, owner.equals("java.lang.Object"), true);
        } else {
            String name = owner + "." + e.getSimpleName();
            DUE.is("in rule 4: " + name, LIBRARY.contains(name), true);
            call(name);
        }
        return super.visitMethodInvocation(tree, none);
    }

    private void call(String callee) {
        calls.computeIfAbsent(method, m -> new TreeSet<>()).add(callee);
    }

    @Override
    public Void visitNewClass(NewClassTree tree, Void none) {
        DUE.is("no anonymous class: " + tree, tree.getClassBody() == null, true);
        String made = trees.getElement(getCurrentPath()).getEnclosingElement().toString();
        DUE.is("one of its own: " + made, made.startsWith("MockParcels."), true);
        return super.visitNewClass(tree, none);
    }

    @Override
    public Void visitVariable(VariableTree tree, Void none) {
        TypeMirror type = trees.getTypeMirror(getCurrentPath());
        boolean row = type.getKind() == TypeKind.ARRAY;
        TypeMirror one = row ? ((ArrayType) type).getComponentType() : type;
        boolean number = one.getKind() == TypeKind.INT || one.getKind() == TypeKind.LONG
            || one.getKind() == TypeKind.BOOLEAN || one.getKind() == TypeKind.CHAR;
        boolean own = one.toString().startsWith("MockParcels.");
        boolean text = !row && one.toString().equals("java.lang.String");
        DUE.is("a type of rule 3: " + tree, number || own || text, true);
        return super.visitVariable(tree, none);
    }

    /** A comparison of numbers in its condition, with which its counter comes to an end. */
    private void ends(Tree loop, ExpressionTree condition) {
        boolean[] bounded = {false};
        new TreeScanner<Void, Void>() {
            @Override
            public Void visitBinary(BinaryTree tree, Void none) {
                switch (tree.getKind()) {
                    case LESS_THAN, LESS_THAN_EQUAL, GREATER_THAN, GREATER_THAN_EQUAL -> bounded[0] = true;
                    default -> { }
                }
                // On one side of an or it would be no bound.
                return tree.getKind() == Tree.Kind.CONDITIONAL_OR ? null : super.visitBinary(tree, none);
            }
        }.scan(condition, null);
        DUE.is("its end can be seen: " + loop, bounded[0], true);
    }

    @Override
    public Void visitForLoop(ForLoopTree tree, Void none) {
        DUE.is("a counter that moves: " + tree, tree.getUpdate().size(), 1);
        ends(tree, tree.getCondition());
        return super.visitForLoop(tree, none);
    }

    @Override
    public Void visitWhileLoop(WhileLoopTree tree, Void none) {
        ends(tree, tree.getCondition());
        return super.visitWhileLoop(tree, none);
    }

    @Override
    public Void visitDoWhileLoop(DoWhileLoopTree tree, Void none) {
        ends(tree, tree.getCondition());
        return super.visitDoWhileLoop(tree, none);
    }

    @Override
    public Void visitEnhancedForLoop(EnhancedForLoopTree tree, Void none) {
        TypeMirror over = trees.getTypeMirror(new TreePath(getCurrentPath(), tree.getExpression()));
        DUE.is("over an array: " + tree, over.getKind() == TypeKind.ARRAY, true);
        return super.visitEnhancedForLoop(tree, none);
    }

    /** A divisor is a number that is written out, or is looked at in the line itself or in its loop's head. */
    @Override
    public Void visitBinary(BinaryTree tree, Void none) {
        if (tree.getKind() == Tree.Kind.DIVIDE || tree.getKind() == Tree.Kind.REMAINDER) {
            String by = tree.getRightOperand().toString();
            boolean constant = by.matches("[0-9]+|[A-Z_]+|\\(PUTS \\+ 1\\)");
            boolean looked = false;
            for (TreePath path = getCurrentPath(); path != null && !(path.getLeaf() instanceof MethodTree);
                path = path.getParentPath()) {
                String around = path.getLeaf() instanceof BlockTree ? "" : path.getLeaf().toString();
                looked |= around.matches("(?s).*\\b" + by.replaceAll("\\W", ".") + " (!=|==|>|<=) 0.*");
            }
            DUE.is("a divisor is looked at: " + tree, constant || looked, true);
        }
        return super.visitBinary(tree, none);
    }
}
