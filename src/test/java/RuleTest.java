import com.sun.source.tree.*;
import com.sun.source.util.JavacTask;
import com.sun.source.util.TreePath;
import com.sun.source.util.TreePathScanner;
import com.sun.source.util.Trees;
import java.nio.file.Path;
import java.util.Arrays;
import java.util.HashMap;
import java.util.HashSet;
import java.util.List;
import java.util.Map;
import java.util.Set;
import java.util.TreeSet;
import javax.lang.model.element.Element;
import javax.lang.model.element.ExecutableElement;
import javax.lang.model.element.Modifier;
import javax.lang.model.element.TypeElement;
import javax.lang.model.type.TypeKind;
import javax.tools.JavaCompiler;
import javax.tools.StandardJavaFileManager;
import javax.tools.ToolProvider;

/**
 * What of ../shared/LANGUAGE.md can be seen in the text of PassForge.java. It asks for less than that page allows where the class
 * needs less: no catch, no list, no object but of a constructor or an exception, and no recursion.
 */
public final class RuleTest {
    private static final String FILE = "src/main/java/PassForge.java";
    private static final Set<String> EXCEPTIONS = Set.of("IllegalStateException", "IllegalArgumentException", "IndexOutOfBoundsException");
    private static final Set<String> LIBRARY = Set.of("java.lang.Math.min", "java.lang.Math.max");
    private static final Set<String> TYPES = Set.of("int", "long", "boolean", "double", "int[]", "long[]", "boolean[]");
    private static final Set<Tree.Kind> REFUSED = Set.of(Tree.Kind.LAMBDA_EXPRESSION, Tree.Kind.MEMBER_REFERENCE, Tree.Kind.TRY,
            Tree.Kind.CATCH, Tree.Kind.SYNCHRONIZED, Tree.Kind.ASSERT, Tree.Kind.IMPORT, Tree.Kind.PACKAGE, Tree.Kind.INSTANCE_OF,
            Tree.Kind.SWITCH_EXPRESSION, Tree.Kind.YIELD, Tree.Kind.ANNOTATION, Tree.Kind.DO_WHILE_LOOP, Tree.Kind.FLOAT_LITERAL);

    private final Trees trees;
    private final CompilationUnitTree unit;
    private final Map<Element, Set<Element>> calls = new HashMap<>();
    private final Map<Element, Integer> depths = new HashMap<>();
    private int classes;

    private RuleTest(Trees trees, CompilationUnitTree unit) {
        this.trees = trees;
        this.unit = unit;
    }

    public static void main(String[] args) throws Exception {
        JavaCompiler compiler = ToolProvider.getSystemJavaCompiler();
        try (StandardJavaFileManager files = compiler.getStandardFileManager(null, null, null)) {
            JavacTask task = (JavacTask) compiler.getTask(null, files, null, List.of("-proc:none"), null,
                    files.getJavaFileObjects(Path.of(FILE)));
            CompilationUnitTree unit = task.parse().iterator().next();
            task.analyze();
            RuleTest test = new RuleTest(Trees.instance(task), unit);
            test.new Looker().scan(unit, null);
            test.lookAtAll();
        }
        Check.end("RuleTest");
    }

    private void rule(int rule, Tree at, String what, boolean holds) {
        long line = unit.getLineMap().getLineNumber(trees.getSourcePositions().getStartPosition(unit, at));
        if (holds) {
            Check.same("rule " + rule, true, true);
        } else {
            Check.same("rule " + rule + ", line " + line + ": " + what + " holds:", false, true);
        }
    }

    private void lookAtAll() throws Exception {
        Check.same("at most twelve classes (rule 11): " + classes, classes <= 12, true);
        int deepest = 0;
        for (Element method : calls.keySet()) {
            deepest = Math.max(deepest, depth(method, new HashSet<>()));
        }
        Check.same("calls go at most eight deep (rule 11): " + deepest, deepest <= 8, true);
        Check.same("calls are found", deepest > 3, true);
        Check.same("no sign but 10 and 32 to 126", unit.getSourceFile().getCharContent(true).chars().allMatch(x -> x == 10 || x >= 32 && x < 127), true);
    }

    /** How many calls stand open at once below and with this one. */
    private int depth(Element method, Set<Element> open) {
        if (!open.add(method)) {
            Check.same("no recursion (rule 8): " + method, false, true);
            return 0;
        }
        int deepest = 0;
        for (Element called : calls.getOrDefault(method, Set.of())) {
            if (!depths.containsKey(called)) {
                depths.put(called, depth(called, open));
            }
            deepest = Math.max(deepest, depths.get(called));
        }
        open.remove(method);
        return deepest + 1;
    }

    /** Looks at each part of the text. */
    private final class Looker extends TreePathScanner<Void, Void> {
        private MethodTree method;

        private Element element(Tree tree) {
            return trees.getElement(new TreePath(getCurrentPath(), tree));
        }

        @Override
        public Void scan(Tree tree, Void none) {
            if (tree != null) {
                rule(2, tree, tree.getKind() + " is not there", !REFUSED.contains(tree.getKind()));
            }
            return super.scan(tree, none);
        }

        @Override
        public Void visitClass(ClassTree tree, Void none) {
            classes++;
            boolean isOuter = tree.getSimpleName().contentEquals("PassForge");
            Set<Modifier> flags = tree.getModifiers().getFlags();
            rule(1, tree, "public or private static", flags.contains(isOuter ? Modifier.PUBLIC : Modifier.STATIC));
            rule(1, tree, "final", flags.contains(Modifier.FINAL));
            long fields = tree.getMembers().stream().filter(x -> x instanceof VariableTree
                    && !((VariableTree) x).getModifiers().getFlags().contains(Modifier.STATIC)).count();
            rule(11, tree, "at most twenty fields: " + fields, fields <= 20);
            rule(5, tree, "no initialiser block", tree.getMembers().stream().noneMatch(x -> x instanceof BlockTree));
            return super.visitClass(tree, none);
        }

        @Override
        public Void visitVariable(VariableTree tree, Void none) {
            String type = tree.getType().toString();
            TypeElement own = trees.getElement(new TreePath(getCurrentPath(), tree.getType())) instanceof TypeElement found ? found : null;
            boolean isOwn = own != null && own.getQualifiedName().toString().startsWith("PassForge") || type.equals("Program[]");
            rule(2, tree, type + " is a type of the language", TYPES.contains(type) || isOwn);
            if (getCurrentPath().getParentPath().getLeaf() instanceof ClassTree) {
                Set<Modifier> flags = tree.getModifiers().getFlags();
                boolean isConstant = flags.contains(Modifier.FINAL) && Set.of("int", "long").contains(type) && tree.getInitializer() != null;
                rule(5, tree, "a static field is a constant", !flags.contains(Modifier.STATIC) || isConstant);
                rule(1, tree, "a field of an object is private", flags.contains(Modifier.STATIC) || flags.contains(Modifier.PRIVATE));
            }
            return super.visitVariable(tree, none);
        }

        @Override
        public Void visitMethod(MethodTree tree, Void none) {
            MethodTree outer = method;
            method = tree;
            ExecutableElement element = (ExecutableElement) trees.getElement(getCurrentPath());
            boolean isGiven = tree.getName().contentEquals("<init>") && trees.getSourcePositions().getEndPosition(unit, tree) < 0;
            if (!isGiven) {
                calls.computeIfAbsent(element, x -> new HashSet<>());
                LineMap lines = unit.getLineMap();
                long from = lines.getLineNumber(trees.getSourcePositions().getStartPosition(unit, tree));
                long to = lines.getLineNumber(trees.getSourcePositions().getEndPosition(unit, tree));
                rule(11, tree, "at most sixty lines: " + tree.getName(), to - from < 60);
                rule(11, tree, "at most seven parameters: " + tree.getName(), tree.getParameters().size() <= 7);
            }
            super.visitMethod(tree, none);
            method = outer;
            return null;
        }

        @Override
        public Void visitMethodInvocation(MethodInvocationTree tree, Void none) {
            Element called = element(tree.getMethodSelect());
            String owner = called.getEnclosingElement().toString();
            boolean isOwn = owner.startsWith("PassForge") || called.getSimpleName().contentEquals("<init>");
            rule(4, tree, owner + "." + called.getSimpleName() + " is of the language", isOwn || LIBRARY.contains(owner + "." + called.getSimpleName()));
            if (owner.startsWith("PassForge") && method != null) {
                calls.computeIfAbsent(trees.getElement(pathOf(method)), x -> new HashSet<>()).add(called);
            }
            return super.visitMethodInvocation(tree, none);
        }

        private TreePath pathOf(Tree tree) {
            return TreePath.getPath(unit, tree);
        }

        private boolean isInConstructor() {
            return method == null || method.getName().contentEquals("<init>");
        }

        @Override
        public Void visitNewClass(NewClassTree tree, Void none) {
            String name = tree.getIdentifier().toString();
            boolean isThrown = getCurrentPath().getParentPath().getLeaf() instanceof ThrowTree;
            rule(6, tree, name + " is thrown where it is made", isThrown == EXCEPTIONS.contains(name));
            rule(12, tree, name + " is made in a constructor", isThrown || isInConstructor());
            return super.visitNewClass(tree, none);
        }

        @Override
        public Void visitNewArray(NewArrayTree tree, Void none) {
            rule(12, tree, "an array is made in a constructor", isInConstructor());
            return super.visitNewArray(tree, none);
        }

        @Override
        public Void visitThrow(ThrowTree tree, Void none) {
            boolean isNew = tree.getExpression() instanceof NewClassTree made && made.getArguments().size() == 1
                    && made.getArguments().get(0).getKind() == Tree.Kind.STRING_LITERAL;
            rule(6, tree, "throw new E(\"a written text\")", isNew);
            rule(6, tree, "no throw in a constructor", !isInConstructor());
            return super.visitThrow(tree, none);
        }

        /** Texts are joined by no +; nothing but numbers is compared with one another. */
        @Override
        public Void visitBinary(BinaryTree tree, Void none) {
            for (Tree side : Arrays.asList(tree.getLeftOperand(), tree.getRightOperand())) {
                TypeKind kind = trees.getTypeMirror(new TreePath(getCurrentPath(), side)).getKind();
                rule(10, tree, "an operator is of numbers", kind.isPrimitive());
            }
            return super.visitBinary(tree, none);
        }

        @Override
        public Void visitCompoundAssignment(CompoundAssignmentTree tree, Void none) {
            TypeKind kind = trees.getTypeMirror(new TreePath(getCurrentPath(), tree.getVariable())).getKind();
            rule(10, tree, "an operator is of numbers", kind.isPrimitive());
            return super.visitCompoundAssignment(tree, none);
        }

        @Override
        public Void visitTypeCast(TypeCastTree tree, Void none) {
            rule(6, tree, "a cast is of numbers", new TreeSet<>(Arrays.asList("int", "long", "double")).contains(tree.getType().toString()));
            return super.visitTypeCast(tree, none);
        }

        /** A loop counts up or down: a while loop has a comparison in its condition. */
        @Override
        public Void visitWhileLoop(WhileLoopTree tree, Void none) {
            rule(9, tree, "a loop has an end", tree.getCondition().toString().contains(" < "));
            return super.visitWhileLoop(tree, none);
        }

        @Override
        public Void visitForLoop(ForLoopTree tree, Void none) {
            String condition = String.valueOf(tree.getCondition());
            rule(9, tree, "a loop has an end", tree.getUpdate().size() == 1 && condition.matches(".*( < | <= | > | >= ).*"));
            return super.visitForLoop(tree, none);
        }
    }
}
