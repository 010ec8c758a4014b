import com.sun.source.tree.ArrayTypeTree;
import com.sun.source.tree.BinaryTree;
import com.sun.source.tree.BlockTree;
import com.sun.source.tree.ClassTree;
import com.sun.source.tree.CompilationUnitTree;
import com.sun.source.tree.ExpressionTree;
import com.sun.source.tree.ForLoopTree;
import com.sun.source.tree.MethodInvocationTree;
import com.sun.source.tree.MethodTree;
import com.sun.source.tree.NewArrayTree;
import com.sun.source.tree.NewClassTree;
import com.sun.source.tree.ParenthesizedTree;
import com.sun.source.tree.Tree;
import com.sun.source.tree.VariableTree;
import com.sun.source.tree.WhileLoopTree;
import com.sun.source.util.JavacTask;
import com.sun.source.util.TreePath;
import com.sun.source.util.TreePathScanner;
import com.sun.source.util.Trees;
import java.io.IOException;
import java.lang.reflect.Method;
import java.nio.file.Files;
import java.nio.file.Path;
import java.util.ArrayDeque;
import java.util.Arrays;
import java.util.Comparator;
import java.util.Deque;
import java.util.EnumSet;
import java.util.LinkedHashMap;
import java.util.LinkedHashSet;
import java.util.List;
import java.util.Map;
import java.util.Random;
import java.util.Set;
import java.util.TreeSet;
import javax.lang.model.element.Element;
import javax.lang.model.element.ElementKind;
import javax.lang.model.element.Modifier;
import javax.tools.JavaCompiler;
import javax.tools.StandardJavaFileManager;
import javax.tools.ToolProvider;

/** The rules of LANGUAGE.md, as far as they can be seen in the class's source: javac itself takes it apart. */
public final class RulesTest {
    private static final Path SOURCE = Path.of("src/main/java/BellLots.java");

    /** What the class needs of the library; all of it stands in rule 4. */
    private static final Set<String> LIBRARY = Set.of("java.lang.System.arraycopy", "java.util.Arrays.fill",
        "java.lang.Math.min", "java.lang.Math.max", "java.lang.Integer.bitCount", "java.lang.Object.<init>");

    /** Rules 2 and 6; casts of own classes and instanceof are allowed, but the class has no need of them. */
    private static final Set<Tree.Kind> BANNED = EnumSet.of(Tree.Kind.THROW, Tree.Kind.TRY, Tree.Kind.CATCH,
        Tree.Kind.SYNCHRONIZED, Tree.Kind.ASSERT, Tree.Kind.LAMBDA_EXPRESSION, Tree.Kind.MEMBER_REFERENCE,
        Tree.Kind.INSTANCE_OF, Tree.Kind.DOUBLE_LITERAL, Tree.Kind.FLOAT_LITERAL, Tree.Kind.DO_WHILE_LOOP,
        Tree.Kind.ANNOTATION);

    private static final Set<String> TYPES = Set.of("int", "long", "boolean", "void");

    private static int wrong = 0;

    private static void check(boolean holds, int rule, String what) {
        if (!holds) {
            wrong++;
            System.out.println("rule " + rule + ": " + what);
        }
    }

    /** One walk over the class: what it finds against a rule, and who calls whom. */
    private static final class Walk extends TreePathScanner<Void, Void> {
        private final CompilationUnitTree unit;
        private final Trees trees;
        final Map<Element, Set<Element>> calls = new LinkedHashMap<>();
        private final Deque<Element> methods = new ArrayDeque<>();
        int classes = 0;

        Walk(CompilationUnitTree unit, Trees trees) {
            this.unit = unit;
            this.trees = trees;
        }

        private long line(Tree tree) {
            return unit.getLineMap().getLineNumber(trees.getSourcePositions().getStartPosition(unit, tree));
        }

        private long lastLine(Tree tree) {
            return unit.getLineMap().getLineNumber(trees.getSourcePositions().getEndPosition(unit, tree));
        }

        @Override
        public Void scan(Tree tree, Void nothing) {
            if (tree != null) {
                check(!BANNED.contains(tree.getKind()), 6, tree.getKind() + " in line " + line(tree));
            }
            return super.scan(tree, nothing);
        }

        @Override
        public Void visitClass(ClassTree tree, Void nothing) {
            classes++;
            boolean outer = getCurrentPath().getParentPath().getLeaf().getKind() == Tree.Kind.COMPILATION_UNIT;
            Set<Modifier> flags = tree.getModifiers().getFlags();
            check(outer || flags.contains(Modifier.STATIC), 2, tree.getSimpleName() + " is not static");
            check(outer || getCurrentPath().getParentPath().getLeaf() instanceof ClassTree, 2, "a local class");
            int fields = 0;
            for (Tree member : tree.getMembers()) {
                if (member instanceof VariableTree field) {
                    boolean still = field.getModifiers().getFlags().contains(Modifier.STATIC);
                    check(!still || field.getModifiers().getFlags().contains(Modifier.FINAL), 5, field + " is not final");
                    check(!still || field.getType().toString().equals("int"), 5, field + " is no int");
                    fields += still ? 0 : 1;
                }
                check(!(member instanceof BlockTree), 5, "an initialiser block in " + tree.getSimpleName());
            }
            check(fields <= 20, 11, tree.getSimpleName() + " has " + fields + " fields");
            return super.visitClass(tree, nothing);
        }

        @Override
        public Void visitMethod(MethodTree tree, Void nothing) {
            Element method = trees.getElement(getCurrentPath());
            check(tree.getParameters().size() <= 7, 11, method + " takes more than seven");
            check(lastLine(tree) - line(tree) < 60, 11, method + " is longer than sixty lines");
            check(tree.getThrows().isEmpty(), 6, method + " throws");
            calls.put(method, new LinkedHashSet<>());
            methods.push(method);
            super.visitMethod(tree, nothing);
            methods.pop();
            return null;
        }

        @Override
        public Void visitVariable(VariableTree tree, Void nothing) {
            String type = tree.getType().toString().replace("[]", "");
            check(TYPES.contains(type) || isOwn(type), 3, tree + " in line " + line(tree));
            check(!(tree.getType() instanceof ArrayTypeTree array) || !(array.getType() instanceof ArrayTypeTree), 3,
                tree + " has two dimensions");
            return super.visitVariable(tree, nothing);
        }

        private boolean isOwn(String type) {
            for (Tree member : ((ClassTree) unit.getTypeDecls().get(0)).getMembers()) {
                if (member instanceof ClassTree own && own.getSimpleName().contentEquals(type)) {
                    return true;
                }
            }
            return false;
        }

        @Override
        public Void visitMethodInvocation(MethodInvocationTree tree, Void nothing) {
            Element called = trees.getElement(getCurrentPath());
            String owner = called.getEnclosingElement().toString();
            if (!owner.startsWith("BellLots")) {
                check(LIBRARY.contains(owner + "." + called.getSimpleName()), 4, called + " in line " + line(tree));
            } else if (!methods.isEmpty()) {
                calls.get(methods.peek()).add(called);
            }
            return super.visitMethodInvocation(tree, nothing);
        }

        @Override
        public Void visitNewClass(NewClassTree tree, Void nothing) {
            check(tree.getClassBody() == null, 2, "an anonymous class in line " + line(tree));
            checkMade(tree);
            return super.visitNewClass(tree, nothing);
        }

        @Override
        public Void visitNewArray(NewArrayTree tree, Void nothing) {
            checkMade(tree);
            return super.visitNewArray(tree, nothing);
        }

        /** No call makes an object: all that a run makes, it makes with the BellLots. */
        private void checkMade(Tree tree) {
            check(methods.isEmpty() || methods.peek().getKind() == ElementKind.CONSTRUCTOR, 12,
                "something is made by a call, in line " + line(tree));
        }

        @Override
        public Void visitForLoop(ForLoopTree tree, Void nothing) {
            checkEnd(tree, tree.getCondition());
            return super.visitForLoop(tree, nothing);
        }

        @Override
        public Void visitWhileLoop(WhileLoopTree tree, Void nothing) {
            checkEnd(tree, tree.getCondition());
            return super.visitWhileLoop(tree, nothing);
        }

        /** A counter against a bound must be one of the things without which a loop does not go on. */
        private void checkEnd(Tree loop, ExpressionTree condition) {
            check(condition != null && isBounded(condition), 9, "no bound in line " + line(loop));
        }

        private boolean isBounded(ExpressionTree condition) {
            ExpressionTree bare = condition;
            while (bare instanceof ParenthesizedTree inBrackets) {
                bare = inBrackets.getExpression();
            }
            if (!(bare instanceof BinaryTree both)) {
                return false;
            }
            return switch (both.getKind()) {
                case LESS_THAN, LESS_THAN_EQUAL -> true;
                case CONDITIONAL_AND -> isBounded(both.getLeftOperand()) || isBounded(both.getRightOperand());
                default -> false;
            };
        }

        @Override
        public Void visitBinary(BinaryTree tree, Void nothing) {
            TreePath path = getCurrentPath();
            String type = String.valueOf(trees.getTypeMirror(path));
            check(TYPES.contains(type), 10, tree + " in line " + line(tree) + " is a " + type);
            return super.visitBinary(tree, nothing);
        }
    }

    /** How many calls stand open at once, at most, from this method on; none may stand open twice. */
    private static int depth(Walk walk, Element method, Deque<Element> open) {
        check(!open.contains(method), 8, method + " calls itself");
        if (open.contains(method)) {
            return 0;
        }
        open.push(method);
        int deepest = 0;
        for (Element called : walk.calls.getOrDefault(method, Set.of())) {
            deepest = Math.max(deepest, depth(walk, called, open));
        }
        open.pop();
        return deepest + 1;
    }

    private static void checkNames(Walk walk) {
        Set<String> open = new TreeSet<>(), closed = new TreeSet<>();
        for (Element method : walk.calls.keySet()) {
            boolean isPublic = method.getModifiers().contains(Modifier.PUBLIC);
            (isPublic ? open : closed).add(method.getSimpleName().toString());
        }
        closed.retainAll(open);
        closed.remove("<init>");
        check(closed.isEmpty(), 1, "a public method's name is used again: " + closed);
    }

    /** Rule 7: no call throws, whatever it is asked, in states that come about by chance and far beyond 512 calls. */
    private static void checkNeverThrows() {
        Random random = new Random(7);
        String[] texts = {"", "t1 1 0;", "t1 9 0;t1 8 0;t1 7 0;d0 1 1;d1 2 9;o0 1 0;o1 1 60;",
            "t9 9 6;t1 8 6;t7 7 6;t1 6 6;t5 5 6;t1 4 6;d0 5 9;o0 1 2;o5 4 3;o0 0 1;o0 2 1;o3 3 7;o1 1 9;", "t1 1 0;t", "x"};
        int[] extremes = {Integer.MIN_VALUE, Integer.MIN_VALUE + 1, -7, -2, 21, 60, 100, 999, 1000, 9998, 9999, 10000,
            65536, Integer.MAX_VALUE - 1, Integer.MAX_VALUE};
        List<Method> face = Arrays.stream(BellLots.class.getDeclaredMethods())
            .filter(m -> java.lang.reflect.Modifier.isPublic(m.getModifiers()))
            .sorted(Comparator.comparing(Method::getName)).toList();
        for (int run = 0; run < 40; run++) {
            BellLots x = new BellLots();
            for (int i = 0; i < 3000; i++) {
                if (random.nextInt(400) == 0) {
                    texts[random.nextInt(texts.length)].chars().forEach(x::type);
                    x.plain();
                }
                Method m = face.get(random.nextInt(face.size()));
                Object[] numbers = new Object[m.getParameterCount()];
                for (int n = 0; n < numbers.length; n++) {
                    boolean small = random.nextInt(4) != 0;
                    numbers[n] = small ? random.nextInt(9) - 1 : extremes[random.nextInt(extremes.length)];
                }
                callSafely(x, m, numbers);
            }
        }
    }

    private static void callSafely(BellLots x, Method m, Object[] numbers) {
        try {
            m.invoke(x, numbers);
        } catch (ReflectiveOperationException thrown) {
            check(false, 7, m.getName() + Arrays.toString(numbers) + " ended by " + thrown.getCause());
        }
    }

    public static void main(String[] args) throws IOException {
        JavaCompiler compiler = ToolProvider.getSystemJavaCompiler();
        StandardJavaFileManager files = compiler.getStandardFileManager(null, null, null);
        JavacTask task = (JavacTask) compiler.getTask(null, files, null, List.of("-proc:none"), null,
            files.getJavaFileObjects(SOURCE));
        CompilationUnitTree unit = task.parse().iterator().next();
        task.analyze();
        check(unit.getPackage() == null && unit.getTypeDecls().size() == 1, 1, "one class, without a package");
        unit.getImports().forEach(i ->
            check(i.getQualifiedIdentifier().toString().equals("java.util.Arrays"), 4, i.toString().trim()));
        Walk walk = new Walk(unit, Trees.instance(task));
        walk.scan(unit, null);
        check(walk.classes > 1 && walk.classes <= 12 && walk.calls.size() > 30, 11, walk.classes + " classes");
        checkNames(walk);
        for (Element method : walk.calls.keySet()) {
            int depth = depth(walk, method, new ArrayDeque<>());
            check(depth <= 8, 11, method + " goes " + depth + " deep");
        }
        checkNeverThrows();
        check(Files.readString(SOURCE).chars().allMatch(c -> c == '\n' || c >= 32 && c < 127), 4, "other signs");
        System.out.println(wrong == 0 ? "the rules are kept" : wrong + " times a rule is not kept");
        System.exit(wrong == 0 ? 0 : 1);
    }
}
