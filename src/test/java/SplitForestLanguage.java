import com.sun.source.tree.ArrayTypeTree;
import com.sun.source.tree.BinaryTree;
import com.sun.source.tree.BlockTree;
import com.sun.source.tree.ClassTree;
import com.sun.source.tree.CompilationUnitTree;
import com.sun.source.tree.DoWhileLoopTree;
import com.sun.source.tree.ExpressionTree;
import com.sun.source.tree.ForLoopTree;
import com.sun.source.tree.IdentifierTree;
import com.sun.source.tree.MemberSelectTree;
import com.sun.source.tree.MethodInvocationTree;
import com.sun.source.tree.MethodTree;
import com.sun.source.tree.NewArrayTree;
import com.sun.source.tree.NewClassTree;
import com.sun.source.tree.ParenthesizedTree;
import com.sun.source.tree.Tree;
import com.sun.source.tree.VariableTree;
import com.sun.source.tree.WhileLoopTree;
import com.sun.source.util.JavacTask;
import com.sun.source.util.TreePath;
import com.sun.source.util.TreePathScanner;
import com.sun.source.util.Trees;
import java.io.File;
import java.io.IOException;
import java.lang.reflect.Array;
import java.lang.reflect.Field;
import java.util.ArrayDeque;
import java.util.EnumSet;
import java.util.IdentityHashMap;
import java.util.List;
import java.util.Map;
import java.util.Set;
import java.util.TreeMap;
import java.util.TreeSet;
import javax.lang.model.element.Element;
import javax.lang.model.element.ElementKind;
import javax.lang.model.element.ExecutableElement;
import javax.lang.model.element.Modifier;
import javax.lang.model.element.NestingKind;
import javax.lang.model.element.TypeElement;
import javax.lang.model.element.VariableElement;
import javax.lang.model.type.ArrayType;
import javax.lang.model.type.TypeKind;
import javax.lang.model.type.TypeMirror;
import javax.tools.JavaCompiler;
import javax.tools.StandardJavaFileManager;
import javax.tools.ToolProvider;

/**
 * Looks whether src/main/java/SplitForest.java keeps to the rules of LANGUAGE.md, as far as a
 * program can tell. Where the class needs less than a rule leaves, the test leaves that less.
 */
public final class SplitForestLanguage {
    private static final String PROGRAM = "src/main/java/SplitForest.java";
    private static final int MOST_PARAMETERS = 7;
    private static final int MOST_LINES = 60;
    private static final int MOST_CALLS_DEEP = 8;
    private static final int MOST_CLASSES = 12;
    private static final int MOST_FIELDS = 20;
    /** A run may make thousands of objects before the room of 600,000 and 7.3 million is full. */
    private static final int MOST_OBJECTS_OF_ONE = 20;
    private static final int MOST_ELEMENTS_OF_ONE = 1200;
    private static final Set<Tree.Kind> LEFT_OUT = EnumSet.of(Tree.Kind.LAMBDA_EXPRESSION,
            Tree.Kind.MEMBER_REFERENCE, Tree.Kind.TRY, Tree.Kind.THROW, Tree.Kind.SYNCHRONIZED,
            Tree.Kind.ASSERT, Tree.Kind.INSTANCE_OF, Tree.Kind.TYPE_CAST, Tree.Kind.IMPORT,
            Tree.Kind.PACKAGE, Tree.Kind.DIVIDE_ASSIGNMENT, Tree.Kind.REMAINDER_ASSIGNMENT);
    private static final Set<String> LIBRARY = Set.of("java.lang.Integer", "java.lang.Long", "java.lang.Math");
    private static int wrong = 0;

    public static void main(String[] args) throws IOException, IllegalAccessException {
        readTheProgram();
        roomOfOneObject();
        noCallThrows();
        sameCallsSameAnswers();
        System.out.println(wrong == 0 ? "the program keeps to the rules" : wrong + " rules are not kept");
        if (wrong != 0) {
            System.exit(1);
        }
    }

    private static void rule(int number, boolean kept, String what) {
        if (!kept) {
            wrong++;
            System.out.println("rule " + number + ": " + what);
        }
    }

    private static void readTheProgram() throws IOException {
        JavaCompiler compiler = ToolProvider.getSystemJavaCompiler();
        try (StandardJavaFileManager files = compiler.getStandardFileManager(null, null, null)) {
            JavacTask task = (JavacTask) compiler.getTask(null, files, null, List.of("-proc:none"), null,
                    files.getJavaFileObjects(new File(PROGRAM)));
            CompilationUnitTree unit = task.parse().iterator().next();
            task.analyze();
            Reader reader = new Reader(unit, Trees.instance(task));
            rule(1, unit.getTypeDecls().size() == 1, "the file has one class with all others inside");
            reader.scan(unit, null);
            reader.sumUp();
        }
    }

    /** Goes over the whole file once, and gathers the calls for the rules on depth and recursion. */
    private static final class Reader extends TreePathScanner<Void, Void> {
        private final CompilationUnitTree unit;
        private final Trees trees;
        private final Map<String, Set<String>> calls = new TreeMap<>();
        private final Set<String> face = new TreeSet<>();
        private final Set<String> others = new TreeSet<>();
        private int classes = 0;

        Reader(CompilationUnitTree unit, Trees trees) {
            this.unit = unit;
            this.trees = trees;
        }

        void sumUp() {
            rule(11, classes <= MOST_CLASSES, "there are " + classes + " classes");
            for (String name : others) {
                rule(1, !face.contains(name), name + " bears the name of a public method");
            }
            for (String method : calls.keySet()) {
                depth(method, new ArrayDeque<>());
            }
        }

        private int depth(String method, ArrayDeque<String> open) {
            if (open.contains(method)) {
                rule(8, false, method + " calls itself");
                return 0;
            }
            open.push(method);
            int deepest = 0;
            for (String called : calls.getOrDefault(method, Set.of())) {
                deepest = Math.max(deepest, depth(called, open));
            }
            open.pop();
            rule(11, !open.isEmpty() || deepest < MOST_CALLS_DEEP, method + " goes " + (deepest + 1) + " deep");
            return deepest + 1;
        }

        @Override
        public Void scan(Tree tree, Void none) {
            if (tree != null) {
                rule(6, !LEFT_OUT.contains(tree.getKind()), at(tree) + "has " + tree.getKind());
            }
            return super.scan(tree, none);
        }

        @Override
        public Void visitClass(ClassTree tree, Void none) {
            TypeElement own = (TypeElement) element();
            boolean outer = own.getQualifiedName().contentEquals("SplitForest");
            Set<Modifier> how = own.getModifiers();
            classes++;
            rule(2, own.getNestingKind() == (outer ? NestingKind.TOP_LEVEL : NestingKind.MEMBER),
                    at(tree) + "a class is neither outer nor a member");
            rule(2, tree.getKind() == Tree.Kind.CLASS, at(tree) + "is no plain class");
            if (!outer) {
                rule(1, how.containsAll(Set.of(Modifier.PRIVATE, Modifier.STATIC, Modifier.FINAL)),
                        at(tree) + "a class inside is not private, static and final");
            }
            int fields = 0;
            for (Tree member : tree.getMembers()) {
                rule(5, !(member instanceof BlockTree), at(member) + "is an initialiser block");
                if (member instanceof VariableTree field && !isStatic(field.getModifiers().getFlags())) {
                    fields++;
                }
            }
            rule(11, fields <= MOST_FIELDS, at(tree) + "has " + fields + " fields");
            return super.visitClass(tree, none);
        }

        private boolean isStatic(Set<Modifier> flags) {
            return flags.contains(Modifier.STATIC);
        }

        @Override
        public Void visitMethod(MethodTree tree, Void none) {
            ExecutableElement own = (ExecutableElement) element();
            String name = own.getSimpleName().toString();
            boolean inFace = own.getModifiers().contains(Modifier.PUBLIC);
            if (own.getKind() == ElementKind.METHOD) {
                (inFace ? face : others).add(name);
            }
            rule(1, !inFace || own.getEnclosingElement().getSimpleName().contentEquals("SplitForest"),
                    at(tree) + "is public inside of a class inside");
            rule(11, tree.getParameters().size() <= MOST_PARAMETERS, at(tree) + "has too many parameters");
            rule(11, lastLine(tree) - line(tree) < MOST_LINES, at(tree) + "is too long");
            rule(6, !Set.of("equals", "hashCode", "toString").contains(name), at(tree) + "is " + name);
            rule(3, own.getReturnType().getKind() == TypeKind.VOID || isLeft(own.getReturnType()),
                    at(tree) + "answers a " + own.getReturnType());
            calls.putIfAbsent(nameOf(own), new TreeSet<>());
            return super.visitMethod(tree, none);
        }

        @Override
        public Void visitVariable(VariableTree tree, Void none) {
            VariableElement own = (VariableElement) element();
            rule(3, isLeft(own.asType()), at(tree) + "is a " + own.asType());
            if (own.getModifiers().contains(Modifier.STATIC)) {
                rule(5, own.getConstantValue() != null, at(tree) + "is static and no constant");
            }
            return super.visitVariable(tree, none);
        }

        /** The types that the class needs: numbers, rows of numbers, and its own classes. */
        private boolean isLeft(TypeMirror type) {
            if (type.getKind() == TypeKind.ARRAY) {
                return isNumber(((ArrayType) type).getComponentType());
            }
            return isNumber(type) || isOwn(type.toString()) && type.getKind() == TypeKind.DECLARED;
        }

        private boolean isOwn(String className) {
            return className.equals("SplitForest") || className.startsWith("SplitForest.");
        }

        private boolean isNumber(TypeMirror type) {
            return type.getKind() == TypeKind.INT || type.getKind() == TypeKind.LONG
                    || type.getKind() == TypeKind.BOOLEAN;
        }

        @Override
        public Void visitMethodInvocation(MethodInvocationTree tree, Void none) {
            ExecutableElement called = (ExecutableElement) element();
            String owner = called.getEnclosingElement().toString();
            if (isOwn(owner)) {
                calls.get(nameOf(caller())).add(nameOf(called));
            } else if (called.getKind() == ElementKind.METHOD) {
                boolean left = LIBRARY.contains(owner) && !called.getSimpleName().toString().endsWith("Exact");
                for (VariableElement parameter : called.getParameters()) {
                    left &= isNumber(parameter.asType());
                }
                rule(4, left && isNumber(called.getReturnType()), at(tree) + "calls " + owner + "." + called);
            }
            return super.visitMethodInvocation(tree, none);
        }

        @Override
        public Void visitNewClass(NewClassTree tree, Void none) {
            ExecutableElement called = (ExecutableElement) element();
            rule(2, tree.getClassBody() == null, at(tree) + "is an anonymous class");
            rule(12, inConstructor(), at(tree) + "an object is made after the constructor");
            rule(4, isOwn(called.getEnclosingElement().toString()), at(tree) + "makes " + called);
            calls.get(nameOf(caller())).add(nameOf(called));
            return super.visitNewClass(tree, none);
        }

        @Override
        public Void visitNewArray(NewArrayTree tree, Void none) {
            rule(12, inConstructor(), at(tree) + "a row is made after the constructor");
            rule(3, tree.getDimensions().size() == 1, at(tree) + "is a row of more than one dimension");
            return super.visitNewArray(tree, none);
        }

        @Override
        public Void visitArrayType(ArrayTypeTree tree, Void none) {
            rule(3, !(tree.getType() instanceof ArrayTypeTree), at(tree) + "is a row of rows");
            return super.visitArrayType(tree, none);
        }

        @Override
        public Void visitBinary(BinaryTree tree, Void none) {
            if (tree.getKind() == Tree.Kind.DIVIDE || tree.getKind() == Tree.Kind.REMAINDER) {
                rule(7, isWrittenOut(tree.getRightOperand()), at(tree) + "divides by what may be 0");
            }
            return super.visitBinary(tree, none);
        }

        private boolean isWrittenOut(ExpressionTree divisor) {
            TreePath path = new TreePath(getCurrentPath(), divisor);
            Element named = trees.getElement(path);
            boolean constant = named instanceof VariableElement value && value.getConstantValue() != null;
            return divisor.getKind() == Tree.Kind.INT_LITERAL && !divisor.toString().equals("0") || constant;
        }

        @Override
        public Void visitForLoop(ForLoopTree tree, Void none) {
            rule(9, isBounded(tree.getCondition()), at(tree) + "a loop without a bound");
            return super.visitForLoop(tree, none);
        }

        @Override
        public Void visitWhileLoop(WhileLoopTree tree, Void none) {
            rule(9, isBounded(tree.getCondition()), at(tree) + "a loop without a bound");
            return super.visitWhileLoop(tree, none);
        }

        @Override
        public Void visitDoWhileLoop(DoWhileLoopTree tree, Void none) {
            rule(9, isBounded(tree.getCondition()), at(tree) + "a loop without a bound");
            return super.visitDoWhileLoop(tree, none);
        }

        /** A comparison of a counter with a bound that alone can end the loop. */
        private boolean isBounded(ExpressionTree condition) {
            if (condition instanceof ParenthesizedTree inner) {
                return isBounded(inner.getExpression());
            }
            if (!(condition instanceof BinaryTree both)) {
                return false;
            }
            return switch (both.getKind()) {
                case CONDITIONAL_AND -> isBounded(both.getLeftOperand()) || isBounded(both.getRightOperand());
                case LESS_THAN, LESS_THAN_EQUAL, GREATER_THAN, GREATER_THAN_EQUAL -> true;
                default -> false;
            };
        }

        @Override
        public Void visitIdentifier(IdentifierTree tree, Void none) {
            boolean alone = !(getCurrentPath().getParentPath().getLeaf() instanceof MemberSelectTree);
            rule(12, !(alone && tree.getName().contentEquals("this")), at(tree) + "hands out this object");
            return super.visitIdentifier(tree, none);
        }

        private boolean inConstructor() {
            return caller().getKind() == ElementKind.CONSTRUCTOR;
        }

        private ExecutableElement caller() {
            TreePath path = getCurrentPath();
            while (!(path.getLeaf() instanceof MethodTree)) {
                path = path.getParentPath();
            }
            return (ExecutableElement) trees.getElement(path);
        }

        private Element element() {
            return trees.getElement(getCurrentPath());
        }

        private String nameOf(ExecutableElement method) {
            return method.getEnclosingElement() + "." + method;
        }

        private long line(Tree tree) {
            return lineOf(trees.getSourcePositions().getStartPosition(unit, tree));
        }

        private long lastLine(Tree tree) {
            return lineOf(trees.getSourcePositions().getEndPosition(unit, tree));
        }

        /** What the compiler adds of itself has no position. */
        private long lineOf(long position) {
            return position < 0 ? 0 : unit.getLineMap().getLineNumber(position);
        }

        private String at(Tree tree) {
            return "line " + line(tree) + " ";
        }
    }

    /** Counts what a new object of most vertices holds, all that can be come to from it. */
    private static void roomOfOneObject() throws IllegalAccessException {
        Map<Object, Boolean> seen = new IdentityHashMap<>();
        ArrayDeque<Object> open = new ArrayDeque<>();
        open.add(new SplitForest(9));
        int elements = 0;
        while (!open.isEmpty()) {
            Object next = open.pop();
            if (seen.put(next, true) != null) {
                continue;
            }
            if (next.getClass().isArray()) {
                elements += Array.getLength(next);
                continue;
            }
            for (Field field : next.getClass().getDeclaredFields()) {
                if (!java.lang.reflect.Modifier.isStatic(field.getModifiers())) {
                    elements++;
                    field.setAccessible(true);
                    if (!field.getType().isPrimitive() && field.get(next) != null) {
                        open.push(field.get(next));
                    }
                }
            }
        }
        rule(12, seen.size() <= MOST_OBJECTS_OF_ONE, "one object makes " + seen.size());
        rule(12, elements <= MOST_ELEMENTS_OF_ONE, "one object has " + elements + " fields and elements");
    }

    private static final int[] ANY = {-1, 0, 1, 2, 3, 4, 5, 6, 7, 8, 9, 10, 31, 32, 33, 256, 1 << 30,
        Integer.MIN_VALUE, Integer.MAX_VALUE};

    /** An answer to each of the calls with these arguments, as one number. */
    private static long askAll(SplitForest x, int v, int k, int i) {
        int[] answers = {x.vertices(), x.component(v), x.splits(v), x.strong(v), x.set(v, k), x.kind(v, k),
            x.parts(v, k), x.part(v, k, i), x.centre(v, k), x.step(v, k), x.obstruction(v), x.obstacle(v),
            x.apart(v), x.chosen(v), x.cover(v), x.neighbours(v, k) ? 1 : 0, x.linked(v, k) ? 1 : 0,
            x.hereditary(v) ? 1 : 0, x.flip(v, k) ? 1 : 0, x.flip(k, i) ? 1 : 0};
        long sum = 0;
        for (int answer : answers) {
            sum = 31 * sum + answer;
        }
        return sum;
    }

    private static long askAnything(int n) {
        SplitForest x = new SplitForest(n);
        long sum = 0;
        for (int v : ANY) {
            for (int k : ANY) {
                for (int i : ANY) {
                    sum = 31 * sum + askAll(x, v, k, i);
                }
            }
        }
        return sum;
    }

    private static void noCallThrows() {
        for (int n : ANY) {
            try {
                askAnything(n);
            } catch (RuntimeException thrown) {
                rule(7, false, "a call on a graph of " + n + " threw " + thrown);
            }
        }
    }

    private static void sameCallsSameAnswers() {
        for (int n = 1; n <= 9; n++) {
            rule(13, askAnything(n) == askAnything(n), "the same calls give other answers");
        }
    }
}
