import com.sun.source.tree.BinaryTree;
import com.sun.source.tree.BlockTree;
import com.sun.source.tree.ClassTree;
import com.sun.source.tree.CompilationUnitTree;
import com.sun.source.tree.CompoundAssignmentTree;
import com.sun.source.tree.DoWhileLoopTree;
import com.sun.source.tree.EnhancedForLoopTree;
import com.sun.source.tree.ExpressionTree;
import com.sun.source.tree.ForLoopTree;
import com.sun.source.tree.MethodInvocationTree;
import com.sun.source.tree.MethodTree;
import com.sun.source.tree.NewArrayTree;
import com.sun.source.tree.NewClassTree;
import com.sun.source.tree.ParenthesizedTree;
import com.sun.source.tree.Tree;
import com.sun.source.tree.TypeCastTree;
import com.sun.source.tree.VariableTree;
import com.sun.source.tree.WhileLoopTree;
import com.sun.source.util.JavacTask;
import com.sun.source.util.TreePath;
import com.sun.source.util.TreePathScanner;
import com.sun.source.util.Trees;
import java.io.IOException;
import java.nio.file.Files;
import java.nio.file.Path;
import java.util.ArrayList;
import java.util.HashMap;
import java.util.LinkedHashSet;
import java.util.List;
import java.util.Map;
import java.util.Set;
import java.util.TreeSet;
import javax.lang.model.element.Element;
import javax.lang.model.element.ElementKind;
import javax.lang.model.element.ExecutableElement;
import javax.lang.model.element.Modifier;
import javax.lang.model.type.ArrayType;
import javax.lang.model.type.TypeKind;
import javax.lang.model.type.TypeMirror;
import javax.tools.JavaCompiler;
import javax.tools.StandardJavaFileManager;
import javax.tools.ToolProvider;

/**
 * The rules of LANGUAGE.md that can be seen in the source, as the compiler reads it. What the class has no
 * need of (lists, generics, doubles, recursion) is refused here, though the rules leave it: whoever comes to
 * need it widens the test by that rule.
 */
public final class LanguageTest {
    private static final Path SOURCE = Path.of("src/main/java/WeatherGlaze.java");
    private static final Set<String> TYPES = Set.of("void", "int", "long", "byte", "char", "short", "boolean",
        "java.lang.String");
    private static final Set<String> CONSTANTS = Set.of("int", "long", "boolean", "char", "java.lang.String");
    private static final Set<String> OF_OBJECT = Set.of("equals", "hashCode", "toString");
    private static final Set<String> LIBRARY = Set.of("java.lang.String.length", "java.lang.String.charAt",
        "java.lang.Math.min", "java.lang.Math.max", "java.lang.Integer.bitCount", "java.lang.System.arraycopy",
        "java.lang.Object.<init>");
    /** What may not stand in the source at all, with the number of the rule. */
    private static final Map<Tree.Kind, Integer> REFUSED = Map.of(Tree.Kind.LAMBDA_EXPRESSION, 2,
        Tree.Kind.MEMBER_REFERENCE, 2, Tree.Kind.THROW, 6, Tree.Kind.TRY, 6, Tree.Kind.SYNCHRONIZED, 6,
        Tree.Kind.ASSERT, 6, Tree.Kind.BINDING_PATTERN, 6, Tree.Kind.ANNOTATION, 4);
    private static final int MOST_PARAMETERS = 7;
    private static final int MOST_LINES = 60;
    private static final int MOST_DEPTH = 8;
    private static final int MOST_CLASSES = 12;
    private static final int MOST_FIELDS = 20;

    private static int checked = 0;
    private static int wrong = 0;

    private static void rule(int number, String what, boolean isKept) {
        checked++;
        if (!isKept) {
            wrong++;
            System.out.println("rule " + number + ": " + what);
        }
    }

    public static void main(String[] args) throws IOException {
        String source = Files.readString(SOURCE);
        rule(4, "a sign that isn't 1 to 127", source.chars().allMatch(c -> c >= 1 && c <= 127));
        JavaCompiler compiler = ToolProvider.getSystemJavaCompiler();
        try (StandardJavaFileManager files = compiler.getStandardFileManager(null, null, null)) {
            JavacTask task = (JavacTask) compiler.getTask(null, files, null, null, null,
                files.getJavaFileObjects(SOURCE));
            CompilationUnitTree unit = task.parse().iterator().next();
            task.analyze();
            Reading reading = new Reading(Trees.instance(task), unit);
            rule(1, "a package line", unit.getPackage() == null);
            rule(4, "an import", unit.getImports().isEmpty());
            rule(1, "more than one class in the file", unit.getTypeDecls().size() == 1);
            reading.scan(unit, null);
            reading.end();
        }
        System.out.println(checked + " things looked at, " + wrong + " outside the rules");
        if (wrong != 0) {
            System.exit(1);
        }
    }

    private static final class Reading extends TreePathScanner<Void, Void> {
        private final Trees trees;
        private final CompilationUnitTree unit;
        private final Map<ExecutableElement, Set<ExecutableElement>> calls = new HashMap<>();
        private int classes = 0;

        Reading(Trees trees, CompilationUnitTree unit) {
            this.trees = trees;
            this.unit = unit;
        }

        private String at(Tree tree) {
            long line = unit.getLineMap().getLineNumber(trees.getSourcePositions().getStartPosition(unit, tree));
            return " (line " + line + ")";
        }

        private Element element(Tree tree) {
            return trees.getElement(new TreePath(getCurrentPath(), tree));
        }

        private TypeMirror typeOf(Tree tree) {
            return trees.getTypeMirror(new TreePath(getCurrentPath(), tree));
        }

        private boolean isText(Tree tree) {
            TypeMirror type = typeOf(tree);
            return type != null && type.toString().equals("java.lang.String");
        }

        private ExecutableElement openMethod() {
            for (TreePath path = getCurrentPath(); path != null; path = path.getParentPath()) {
                if (path.getLeaf() instanceof MethodTree) {
                    return (ExecutableElement) trees.getElement(path);
                }
            }
            return null;
        }

        private boolean isTypeLeft(TypeMirror type) {
            if (type.getKind() == TypeKind.ARRAY) {
                TypeMirror part = ((ArrayType) type).getComponentType();
                if (part.getKind() == TypeKind.ARRAY) {
                    return ((ArrayType) part).getComponentType().getKind().isPrimitive();
                }
                return isTypeLeft(part);
            }
            return TYPES.contains(type.toString()) || type.toString().startsWith("WeatherGlaze");
        }

        @Override
        public Void scan(Tree tree, Void none) {
            if (tree != null && REFUSED.containsKey(tree.getKind())) {
                rule(REFUSED.get(tree.getKind()), tree.getKind() + at(tree), false);
            }
            return super.scan(tree, none);
        }

        @Override
        public Void visitClass(ClassTree tree, Void none) {
            classes++;
            Element own = trees.getElement(getCurrentPath());
            boolean isOuter = own.getEnclosingElement().getKind() == ElementKind.PACKAGE;
            Set<Modifier> modifiers = own.getModifiers();
            boolean isOpen = modifiers.contains(Modifier.PUBLIC) || modifiers.contains(Modifier.PROTECTED);
            boolean isMember = own.getEnclosingElement().getKind() == ElementKind.CLASS;
            rule(1, "the class isn't final" + at(tree), !isOuter || modifiers.contains(Modifier.FINAL));
            rule(1, "the class isn't public, or one inside is open" + at(tree), isOuter == isOpen);
            rule(2, "a class that is no member" + at(tree), isOuter || isMember);
            rule(2, "a class inside that isn't static" + at(tree), isOuter || modifiers.contains(Modifier.STATIC));
            rule(2, "a class above" + at(tree), tree.getExtendsClause() == null);
            long fields = own.getEnclosedElements().stream()
                .filter(e -> e.getKind() == ElementKind.FIELD && !e.getModifiers().contains(Modifier.STATIC)).count();
            rule(11, "too many fields" + at(tree), fields <= MOST_FIELDS);
            return super.visitClass(tree, none);
        }

        @Override
        public Void visitBlock(BlockTree tree, Void none) {
            Tree around = getCurrentPath().getParentPath().getLeaf();
            rule(5, "an initialiser block" + at(tree), !(around instanceof ClassTree));
            return super.visitBlock(tree, none);
        }

        @Override
        public Void visitVariable(VariableTree tree, Void none) {
            Element own = trees.getElement(getCurrentPath());
            rule(3, "the type of " + tree.getName() + at(tree), isTypeLeft(own.asType()));
            if (own.getModifiers().contains(Modifier.STATIC)) {
                boolean isFinal = own.getModifiers().contains(Modifier.FINAL);
                rule(5, "a static field that isn't final: " + tree.getName(), isFinal);
                rule(5, "the static field " + tree.getName(), CONSTANTS.contains(own.asType().toString()));
            }
            if (own.getKind() == ElementKind.FIELD && tree.getInitializer() != null) {
                boolean isByCall = tree.getInitializer() instanceof MethodInvocationTree;
                rule(12, "a field's value by a call" + at(tree), !isByCall);
            }
            return super.visitVariable(tree, none);
        }

        @Override
        public Void visitMethod(MethodTree tree, Void none) {
            ExecutableElement own = (ExecutableElement) trees.getElement(getCurrentPath());
            calls.computeIfAbsent(own, k -> new LinkedHashSet<>());
            rule(11, "too many parameters: " + own, own.getParameters().size() <= MOST_PARAMETERS);
            rule(3, "what " + own + " answers", isTypeLeft(own.getReturnType()));
            rule(6, "throws: " + own, own.getThrownTypes().isEmpty());
            rule(6, "a method of Object: " + own, !OF_OBJECT.contains(own.getSimpleName().toString()));
            rule(11, "too many lines: " + own, lines(tree) <= MOST_LINES);
            return super.visitMethod(tree, none);
        }

        private long lines(Tree tree) {
            long first = trees.getSourcePositions().getStartPosition(unit, tree);
            long behind = trees.getSourcePositions().getEndPosition(unit, tree);
            // A constructor that the compiler makes has no place in the source.
            if (first < 0 || behind < 0) {
                return 0;
            }
            return unit.getLineMap().getLineNumber(behind) - unit.getLineMap().getLineNumber(first) + 1;
        }

        @Override
        public Void visitMethodInvocation(MethodInvocationTree tree, Void none) {
            called((ExecutableElement) element(tree), tree);
            return super.visitMethodInvocation(tree, none);
        }

        private void called(ExecutableElement called, Tree tree) {
            String owner = called.getEnclosingElement().toString();
            boolean isLeft = LIBRARY.contains(owner + "." + called.getSimpleName());
            rule(4, "calls " + owner + "." + called + at(tree), isLeft || owner.startsWith("WeatherGlaze"));
            ExecutableElement caller = openMethod();
            if (caller != null) {
                calls.computeIfAbsent(caller, k -> new LinkedHashSet<>()).add(called);
            }
        }

        /** The class makes all its objects in constructors, so that a run's room doesn't grow by its calls. */
        @Override
        public Void visitNewClass(NewClassTree tree, Void none) {
            rule(2, "an anonymous class" + at(tree), tree.getClassBody() == null);
            made(tree);
            called((ExecutableElement) element(tree), tree);
            return super.visitNewClass(tree, none);
        }

        @Override
        public Void visitNewArray(NewArrayTree tree, Void none) {
            made(tree);
            return super.visitNewArray(tree, none);
        }

        private void made(Tree tree) {
            ExecutableElement open = openMethod();
            boolean isOfNew = open == null || open.getKind() == ElementKind.CONSTRUCTOR;
            rule(12, "an object is made by " + open + at(tree), isOfNew);
        }

        @Override
        public Void visitBinary(BinaryTree tree, Void none) {
            boolean isOfText = isText(tree.getLeftOperand()) || isText(tree.getRightOperand());
            switch (tree.getKind()) {
                case PLUS:
                    rule(10, "texts joined by +" + at(tree), !isOfText);
                    break;
                case EQUAL_TO: case NOT_EQUAL_TO:
                    rule(6, "== of Strings" + at(tree), !isOfText);
                    break;
                case DIVIDE: case REMAINDER:
                    rule(7, "a divisor that could be 0" + at(tree), isSafeDivisor(tree.getRightOperand()));
                    break;
                default:
                    break;
            }
            return super.visitBinary(tree, none);
        }

        /** A constant, or the counter of a loop that stays above 0. */
        private boolean isSafeDivisor(ExpressionTree divisor) {
            if (divisor.getKind() == Tree.Kind.INT_LITERAL) {
                return !divisor.toString().equals("0");
            }
            Element named = element(divisor);
            if (named != null && named.getModifiers().contains(Modifier.STATIC)) {
                return named.getModifiers().contains(Modifier.FINAL);
            }
            for (TreePath path = getCurrentPath(); path != null; path = path.getParentPath()) {
                if (path.getLeaf() instanceof ForLoopTree loop) {
                    String condition = String.valueOf(loop.getCondition());
                    return condition.equals(divisor + " > 1") || condition.equals(divisor + " > 0");
                }
            }
            return false;
        }

        @Override
        public Void visitCompoundAssignment(CompoundAssignmentTree tree, Void none) {
            rule(10, "texts joined by +=" + at(tree), !isText(tree.getVariable()));
            Tree.Kind kind = tree.getKind();
            boolean isDivided = kind == Tree.Kind.DIVIDE_ASSIGNMENT || kind == Tree.Kind.REMAINDER_ASSIGNMENT;
            rule(7, "a divisor that could be 0" + at(tree), !isDivided || isSafeDivisor(tree.getExpression()));
            return super.visitCompoundAssignment(tree, none);
        }

        @Override
        public Void visitTypeCast(TypeCastTree tree, Void none) {
            rule(7, "a cast to " + tree.getType() + at(tree), typeOf(tree.getType()).getKind().isPrimitive());
            return super.visitTypeCast(tree, none);
        }

        @Override
        public Void visitForLoop(ForLoopTree tree, Void none) {
            rule(9, "a loop without a step" + at(tree), !tree.getUpdate().isEmpty());
            bounded(tree, tree.getCondition());
            return super.visitForLoop(tree, none);
        }

        @Override
        public Void visitWhileLoop(WhileLoopTree tree, Void none) {
            bounded(tree, tree.getCondition());
            return super.visitWhileLoop(tree, none);
        }

        @Override
        public Void visitDoWhileLoop(DoWhileLoopTree tree, Void none) {
            bounded(tree, tree.getCondition());
            return super.visitDoWhileLoop(tree, none);
        }

        private void bounded(Tree loop, ExpressionTree condition) {
            rule(9, "a loop without a bound" + at(loop), hasBound(condition));
        }

        /** A counter against a bound must end the loop whatever else its condition asks. */
        private static boolean hasBound(ExpressionTree condition) {
            if (condition instanceof ParenthesizedTree inner) {
                return hasBound(inner.getExpression());
            }
            if (!(condition instanceof BinaryTree both)) {
                return false;
            }
            switch (both.getKind()) {
                case LESS_THAN: case LESS_THAN_EQUAL: case GREATER_THAN: case GREATER_THAN_EQUAL: return true;
                case CONDITIONAL_AND: return hasBound(both.getLeftOperand()) || hasBound(both.getRightOperand());
                default: return false;
            }
        }

        @Override
        public Void visitEnhancedForLoop(EnhancedForLoopTree tree, Void none) {
            boolean isOverArray = typeOf(tree.getExpression()).getKind() == TypeKind.ARRAY;
            rule(9, "a loop over what is no array" + at(tree), isOverArray);
            return super.visitEnhancedForLoop(tree, none);
        }

        void end() {
            rule(11, "too many classes: " + classes, classes <= MOST_CLASSES);
            int deepest = 0;
            for (ExecutableElement method : calls.keySet()) {
                deepest = Math.max(deepest, depth(method, new ArrayList<>()));
            }
            System.out.println("calls go " + deepest + " deep, those of the library counted");
        }

        private int depth(ExecutableElement method, List<ExecutableElement> open) {
            if (open.contains(method)) {
                rule(8, "a recursion: " + open + ", " + method, false);
                return 0;
            }
            open.add(method);
            rule(11, "calls go too deep: " + open, open.size() <= MOST_DEPTH);
            int deepest = 0;
            for (ExecutableElement called : calls.getOrDefault(method, Set.of())) {
                deepest = Math.max(deepest, depth(called, open));
            }
            open.remove(open.size() - 1);
            return deepest + 1;
        }
    }
}
