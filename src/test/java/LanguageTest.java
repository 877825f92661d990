import com.sun.source.tree.AssignmentTree;
import com.sun.source.tree.BinaryTree;
import com.sun.source.tree.ClassTree;
import com.sun.source.tree.CompilationUnitTree;
import com.sun.source.tree.ForLoopTree;
import com.sun.source.tree.IdentifierTree;
import com.sun.source.tree.LineMap;
import com.sun.source.tree.LiteralTree;
import com.sun.source.tree.MemberSelectTree;
import com.sun.source.tree.MethodInvocationTree;
import com.sun.source.tree.MethodTree;
import com.sun.source.tree.NewArrayTree;
import com.sun.source.tree.NewClassTree;
import com.sun.source.tree.ThrowTree;
import com.sun.source.tree.Tree;
import com.sun.source.tree.VariableTree;
import com.sun.source.util.JavacTask;
import com.sun.source.util.SourcePositions;
import com.sun.source.util.TreeScanner;
import com.sun.source.util.Trees;
import java.io.File;
import java.nio.file.Files;
import java.util.HashMap;
import java.util.List;
import java.util.Map;
import java.util.Set;
import java.util.TreeSet;
import javax.lang.model.element.Modifier;
import javax.tools.JavaCompiler;
import javax.tools.StandardJavaFileManager;
import javax.tools.ToolProvider;

/**
 * The rules of ../shared/LANGUAGE.md that can be read off the program's text. Where a rule leaves more
 * than the program uses (lists, try, texts, new objects in calls), the test asks for the narrower thing.
 */
final class LanguageTest extends TreeScanner<Void, Void> {
    private static final File PROGRAM = new File("src/main/java/SpoonCards.java");
    private static final Due DUE = new Due("LanguageTest");
    private static final Set<Tree.Kind> RULED_OUT = Set.of(Tree.Kind.LAMBDA_EXPRESSION, Tree.Kind.MEMBER_REFERENCE,
        Tree.Kind.SYNCHRONIZED, Tree.Kind.ASSERT, Tree.Kind.IMPORT, Tree.Kind.PACKAGE, Tree.Kind.TRY,
        Tree.Kind.ANNOTATION, Tree.Kind.WHILE_LOOP, Tree.Kind.DO_WHILE_LOOP, Tree.Kind.INSTANCE_OF, Tree.Kind.RECORD);
    private static final Set<String> LIBRARY = Set.of("Math.max", "Math.min", "Math.abs", "Integer.bitCount",
        "System.arraycopy");
    private static final Set<String> THROWN = Set.of("IndexOutOfBoundsException", "IllegalArgumentException",
        "IllegalStateException");
    private static final Set<String> NUMBERS = Set.of("int", "long", "char", "boolean");

    private final CompilationUnitTree unit;
    private final SourcePositions positions;
    private final Map<String, Set<String>> calls = new HashMap<>();
    private final Set<String> publicNames = new TreeSet<>();
    private final Set<String> classes = new TreeSet<>();
    private MethodTree method;

    private LanguageTest(CompilationUnitTree unit, SourcePositions positions) {
        this.unit = unit;
        this.positions = positions;
    }

    public static void main(String[] args) throws Exception {
        JavaCompiler compiler = ToolProvider.getSystemJavaCompiler();
        try (StandardJavaFileManager files = compiler.getStandardFileManager(null, null, null)) {
            JavacTask task = (JavacTask) compiler.getTask(null, files, null, List.of("-proc:none"), null,
                files.getJavaFileObjects(PROGRAM));
            CompilationUnitTree unit = task.parse().iterator().next();
            LanguageTest test = new LanguageTest(unit, Trees.instance(task).getSourcePositions());
            test.collectNames();
            test.scan(unit, null);
            test.end();
        }
        boolean ascii = Files.readString(PROGRAM.toPath()).chars().allMatch(c -> c < 127);
        rule("3: signs 1 to 127", ascii, "the program");
        DUE.end();
    }

    private static void rule(String rule, boolean kept, Object where) {
        DUE.text("rule " + rule + ", at " + where.toString().strip().split("\n")[0], "kept", kept ? "kept" : "broken");
    }

    private void collectNames() {
        new TreeScanner<Void, Void>() {
            @Override public Void visitClass(ClassTree tree, Void none) {
                classes.add(tree.getSimpleName().toString());
                return super.visitClass(tree, none);
            }

            @Override public Void visitMethod(MethodTree tree, Void none) {
                if (tree.getModifiers().getFlags().contains(Modifier.PUBLIC)) publicNames.add(tree.getName().toString());
                return null;
            }
        }.scan(unit, null);
    }

    private void end() {
        rule("1: one class outside", unit.getTypeDecls().size() == 1, "the program");
        rule("11: some twelve classes", classes.size() <= 12, classes);
        for (String name : calls.keySet()) {
            // rule 8 too: a ring of calls would be deeper than any bound
            rule("11: calls at most eight deep", depth(name, 9) <= 8, name);
        }
    }

    private int depth(String name, int most) {
        int deepest = 0;
        if (most > 0) {
            for (String called : calls.getOrDefault(name, Set.of())) {
                deepest = Math.max(deepest, depth(called, most - 1));
            }
        }
        return 1 + deepest;
    }

    @Override public Void scan(Tree tree, Void none) {
        if (tree != null) rule("2 to 10: " + tree.getKind(), !RULED_OUT.contains(tree.getKind()), tree);
        return super.scan(tree, none);
    }

    @Override public Void visitClass(ClassTree tree, Void none) {
        int fields = 0;
        for (Tree member : tree.getMembers()) {
            if (member instanceof VariableTree field) fields += checkField(field);
        }
        rule("11: some twenty fields", fields <= 20, tree.getSimpleName());
        return super.visitClass(tree, none);
    }

    /** Answers 1 if it is no constant. */
    private int checkField(VariableTree field) {
        Set<Modifier> flags = field.getModifiers().getFlags();
        boolean constant = flags.contains(Modifier.STATIC);
        rule("5: static fields are final", !constant || flags.contains(Modifier.FINAL), field);
        return constant ? 0 : 1;
    }

    @Override public Void visitVariable(VariableTree tree, Void none) {
        String type = tree.getType().toString();
        String element = type.endsWith("[]") ? type.substring(0, type.length() - 2) : type;
        rule("3: types", NUMBERS.contains(element) || classes.contains(element), tree);
        return super.visitVariable(tree, none);
    }

    @Override public Void visitMethod(MethodTree tree, Void none) {
        method = tree;
        boolean isPublic = tree.getModifiers().getFlags().contains(Modifier.PUBLIC);
        boolean ownName = tree.getReturnType() == null || !publicNames.contains(tree.getName().toString());
        rule("1: names of private methods", isPublic || ownName, tree.getName());
        rule("11: at most seven parameters", tree.getParameters().size() <= 7, tree.getName());
        LineMap lines = unit.getLineMap();
        long length = lines.getLineNumber(positions.getEndPosition(unit, tree))
            - lines.getLineNumber(positions.getStartPosition(unit, tree)) + 1;
        rule("11: some sixty lines", length <= 60, tree.getName());
        calls.computeIfAbsent(name(tree), name -> new TreeSet<>());
        super.visitMethod(tree, none);
        method = null;
        return null;
    }

    private static String name(MethodTree tree) {
        return tree.getName() + "/" + tree.getParameters().size();
    }

    @Override public Void visitMethodInvocation(MethodInvocationTree tree, Void none) {
        Tree called = tree.getMethodSelect();
        String own = called.toString();
        if (called instanceof MemberSelectTree member) {
            own = member.getIdentifier().toString();
            if (member.getExpression() instanceof IdentifierTree on && Character.isUpperCase(on.toString().charAt(0))) {
                rule("4: the library", LIBRARY.contains(called.toString()), tree);
            }
        }
        if (method != null && !own.equals("super")) {
            calls.computeIfAbsent(name(method), name -> new TreeSet<>()).add(own + "/" + tree.getArguments().size());
        }
        return super.visitMethodInvocation(tree, none);
    }

    @Override public Void visitThrow(ThrowTree tree, Void none) {
        boolean kept = tree.getExpression() instanceof NewClassTree made && THROWN.contains(made.getIdentifier().toString())
            && made.getArguments().stream().allMatch(text -> text instanceof LiteralTree);
        rule("6: throw new E(\"a written text\")", kept && method.getReturnType() != null, tree);
        return null;
    }

    @Override public Void visitNewClass(NewClassTree tree, Void none) {
        rule("12: a call makes no objects", method == null || method.getReturnType() == null, tree);
        rule("2 and 3: own classes", classes.contains(tree.getIdentifier().toString()) && tree.getClassBody() == null, tree);
        return super.visitNewClass(tree, none);
    }

    @Override public Void visitNewArray(NewArrayTree tree, Void none) {
        rule("12: a call makes no arrays", method == null || method.getReturnType() == null, tree);
        return super.visitNewArray(tree, none);
    }

    @Override public Void visitForLoop(ForLoopTree tree, Void none) {
        rule("9: a loop's end", tree.getCondition() instanceof BinaryTree && tree.getUpdate().size() == 1, tree);
        return super.visitForLoop(tree, none);
    }

    @Override public Void visitAssignment(AssignmentTree tree, Void none) {
        String target = tree.getVariable().toString();
        boolean constant = target.length() > 1 && target.equals(target.toUpperCase());
        rule("5: constants are never changed", !constant && !target.matches("[A-Z_]+\\[.*"), tree);
        return super.visitAssignment(tree, none);
    }

    @Override public Void visitBinary(BinaryTree tree, Void none) {
        boolean text = tree.getLeftOperand().getKind() == Tree.Kind.STRING_LITERAL
            || tree.getRightOperand().getKind() == Tree.Kind.STRING_LITERAL;
        rule("10: no joining by +", !text, tree);
        return super.visitBinary(tree, none);
    }
}
