import com.sun.source.tree.AssertTree;
import com.sun.source.tree.BinaryTree;
import com.sun.source.tree.BlockTree;
import com.sun.source.tree.ClassTree;
import com.sun.source.tree.CompilationUnitTree;
import com.sun.source.tree.CompoundAssignmentTree;
import com.sun.source.tree.DoWhileLoopTree;
import com.sun.source.tree.EnhancedForLoopTree;
import com.sun.source.tree.ExpressionTree;
import com.sun.source.tree.ForLoopTree;
import com.sun.source.tree.IdentifierTree;
import com.sun.source.tree.ImportTree;
import com.sun.source.tree.LambdaExpressionTree;
import com.sun.source.tree.LiteralTree;
import com.sun.source.tree.MemberReferenceTree;
import com.sun.source.tree.MemberSelectTree;
import com.sun.source.tree.MethodInvocationTree;
import com.sun.source.tree.MethodTree;
import com.sun.source.tree.NewArrayTree;
import com.sun.source.tree.NewClassTree;
import com.sun.source.tree.ParenthesizedTree;
import com.sun.source.tree.SynchronizedTree;
import com.sun.source.tree.ThrowTree;
import com.sun.source.tree.Tree;
import com.sun.source.tree.TryTree;
import com.sun.source.tree.TypeCastTree;
import com.sun.source.tree.VariableTree;
import com.sun.source.tree.WhileLoopTree;
import com.sun.source.util.JavacTask;
import com.sun.source.util.SourcePositions;
import com.sun.source.util.TreePath;
import com.sun.source.util.TreePathScanner;
import com.sun.source.util.Trees;
import java.nio.file.Files;
import java.nio.file.Path;
import java.util.HashSet;
import java.util.List;
import java.util.Map;
import java.util.Set;
import java.util.TreeMap;
import java.util.TreeSet;
import javax.lang.model.element.Element;
import javax.lang.model.element.ElementKind;
import javax.lang.model.element.ExecutableElement;
import javax.lang.model.element.Modifier;
import javax.lang.model.element.TypeElement;
import javax.lang.model.element.VariableElement;
import javax.lang.model.type.ArrayType;
import javax.lang.model.type.TypeKind;
import javax.lang.model.type.TypeMirror;
import javax.tools.JavaCompiler;
import javax.tools.StandardJavaFileManager;
import javax.tools.ToolProvider;

/** The rules of LANGUAGE.md, looked for in the tree that the compiler makes of a text. */
public final class LanguageTest extends TreePathScanner<Void, Void> {
    private static final int MOST_CLASSES = 12;
    private static final int MOST_FIELDS = 20;
    private static final int MOST_LINES = 60;
    private static final int MOST_PARAMETERS = 7;
    private static final int MOST_CALLS_DEEP = 8;

    /** Rule 4, as far as a class of numbers needs it. */
    private static final Set<String> LIBRARY = Set.of(
        "String.length", "String.charAt", "String.isEmpty", "String.equals", "String.substring",
        "Math.min", "Math.max", "Math.abs", "Math.floorDiv", "Math.floorMod", "Integer.compare", "Long.compare",
        "Integer.bitCount", "Long.bitCount", "Long.numberOfTrailingZeros", "System.arraycopy", "Arrays.copyOf",
        "Arrays.copyOfRange", "Arrays.fill");

    private final Trees trees;
    private final CompilationUnitTree unit;
    private final SourcePositions positions;
    private final Set<String> broken = new TreeSet<>();
    private final Map<String, Set<String>> calls = new TreeMap<>();
    private int classes = 0;
    private int loops = 0;

    private LanguageTest(Trees trees, CompilationUnitTree unit) {
        this.trees = trees;
        this.unit = unit;
        positions = trees.getSourcePositions();
    }

    public static void main(String[] args) throws Exception {
        if (args.length == 0) {
            System.out.println("the path of CheeseCellar.java is asked for");
            System.exit(1);
        }
        for (String words : rulesBrokenIn(Path.of(args[0]))) {
            Check.due(words, true, false);
        }
        noticesWhatIsBroken();
        Check.finish();
    }

    private static Set<String> rulesBrokenIn(Path source) throws Exception {
        JavaCompiler compiler = ToolProvider.getSystemJavaCompiler();
        try (StandardJavaFileManager files = compiler.getStandardFileManager(null, null, null)) {
            List<String> options = List.of("--release", "17", "-proc:none");
            JavacTask task =
                (JavacTask) compiler.getTask(null, files, null, options, null, files.getJavaFileObjects(source));
            CompilationUnitTree unit = task.parse().iterator().next();
            task.analyze();
            LanguageTest looker = new LanguageTest(Trees.instance(task), unit);
            looker.scan(unit, null);
            looker.tell(unit.getPackage() != null, "a package line");
            looker.tell(looker.classes > MOST_CLASSES, "11: " + looker.classes + " classes");
            looker.depths();
            return looker.broken;
        }
    }

    /** A looker that finds nothing in anything would be of no use. */
    private static void noticesWhatIsBroken() throws Exception {
        String[][] samples = {
            {"4: Long.MAX_VALUE", "private static final long A = Long.MAX_VALUE; boolean b(long c) { return c == A; }"},
            {"4: Math.addExact", "int b(int c) { return Math.addExact(c, 1); }"},
            {"5: a", "private static int a = 3; int b() { return a; }"},
            {"6: throw", "int b() { throw new IllegalStateException(); }"},
            {"6: cast", "int b(Object c) { return ((int[]) c).length; }"},
            {"7: c / d", "int b(int c, int d) { return c / d; }"},
            {"7: length c", "int[] b(int c) { return new int[c]; }"},
            {"9: for without an end", "int b() { for (;;) { } }"},
            {"9: while without an end", "int b() { while (true) { } }"},
            {"10: + of texts", "String b(String c) { return c + 1; }"},
            {"11: b has 8 parameters", "int b(int c, int d, int e, int f, int g, int h, int i, int j) { return 0; }"},
            {"11: b1 goes 9 deep", deepCalls(9)},
            {"12: new in a loop", "int b() { for (int c = 0; c < 3; c++) { int[] d = new int[3]; } return 0; }"},
        };
        for (String[] sample : samples) {
            boolean isTold = rulesBrokenBy(sample[1]).contains(sample[0]);
            Check.due("'" + sample[0] + "' is told of " + sample[1], isTold, true);
        }
        String good = "int b(int[] c) { return Math.abs(c.length) / 2; } " + deepCalls(8);
        Check.due("rules broken by " + good, rulesBrokenBy(good).size(), 0);
    }

    private static Set<String> rulesBrokenBy(String members) throws Exception {
        Path folder = Files.createTempDirectory("language");
        Path file = folder.resolve("Sample.java");
        Files.writeString(file, "final class Sample { " + members + " }");
        Set<String> told = rulesBrokenIn(file);
        Files.delete(file);
        Files.delete(folder);
        return told;
    }

    private static String deepCalls(int depth) {
        StringBuilder text = new StringBuilder();
        for (int i = 1; i < depth; i++) {
            text.append("int b").append(i).append("() { return b").append(i + 1).append("(); } ");
        }
        return text.append("int b").append(depth).append("() { return 0; }").toString();
    }

    private void tell(boolean isBroken, String words) {
        if (isBroken) {
            broken.add(words);
        }
    }

    private static TypeElement outermost(Element element) {
        TypeElement found = null;
        for (Element e = element; e != null; e = e.getEnclosingElement()) {
            found = e instanceof TypeElement type ? type : found;
        }
        return found;
    }

    private boolean isOwn(Element element) {
        TypeElement top = outermost(element);
        TreePath ownClass = new TreePath(new TreePath(unit), unit.getTypeDecls().get(0));
        return top == null || top.equals(trees.getElement(ownClass));
    }

    private static String nameOf(Element element) {
        return element.getEnclosingElement().getSimpleName() + "." + element.getSimpleName();
    }

    private TypeMirror typeOf(Tree tree) {
        return trees.getTypeMirror(new TreePath(getCurrentPath(), tree));
    }

    private boolean isText(Tree tree) {
        TypeMirror type = typeOf(tree);
        return type != null && type.toString().equals("java.lang.String");
    }

    // 1, 2, 5, 11: classes, their fields and methods

    @Override
    public Void visitClass(ClassTree node, Void nothing) {
        classes++;
        Element type = trees.getElement(getCurrentPath());
        boolean isInside = type.getEnclosingElement() instanceof TypeElement;
        tell(isInside && !type.getModifiers().contains(Modifier.STATIC), "2: " + type + " is not static");
        tell(!isInside && !type.getModifiers().contains(Modifier.FINAL), "1: " + type + " is not final");
        tell(type.getSimpleName().length() == 0, "2: a class without a name");
        int fields = 0;
        for (Element member : type.getEnclosedElements()) {
            if (member instanceof VariableElement field) {
                fields += field.getModifiers().contains(Modifier.STATIC) ? 0 : 1;
                boolean isLoose = field.getModifiers().contains(Modifier.STATIC) && field.getConstantValue() == null;
                tell(isLoose, "5: " + field);
            }
        }
        tell(fields > MOST_FIELDS, "11: " + type + " has " + fields + " fields");
        return super.visitClass(node, nothing);
    }

    @Override
    public Void visitBlock(BlockTree node, Void nothing) {
        boolean isOfClass = getCurrentPath().getParentPath().getLeaf() instanceof ClassTree;
        tell(isOfClass && node.isStatic(), "5: a static initialiser block");
        return super.visitBlock(node, nothing);
    }

    @Override
    public Void visitMethod(MethodTree node, Void nothing) {
        Element method = trees.getElement(getCurrentPath());
        // the document's face asks for the eight of wheel()
        boolean isFace = method.getModifiers().contains(Modifier.PUBLIC);
        int count = node.getParameters().size();
        tell(!isFace && count > MOST_PARAMETERS, "11: " + node.getName() + " has " + count + " parameters");
        long first = unit.getLineMap().getLineNumber(positions.getStartPosition(unit, node));
        long last = unit.getLineMap().getLineNumber(Math.max(0, positions.getEndPosition(unit, node)));
        tell(last - first >= MOST_LINES, "11: " + node.getName() + " is long");
        for (String no : new String[] {"equals", "hashCode", "toString"}) {
            tell(node.getName().contentEquals(no), "6: " + no);
        }
        return super.visitMethod(node, nothing);
    }

    @Override
    public Void visitImport(ImportTree node, Void nothing) {
        tell(!node.getQualifiedIdentifier().toString().equals("java.util.Arrays"), "4: " + node);
        return null;
    }

    // 3, 4: types and the library

    @Override
    public Void visitVariable(VariableTree node, Void nothing) {
        TypeMirror type = trees.getElement(getCurrentPath()).asType();
        for (int i = 0; type instanceof ArrayType row && i < 9; i++) {
            type = row.getComponentType();
        }
        boolean isFloating = type.getKind() == TypeKind.DOUBLE || type.getKind() == TypeKind.FLOAT;
        tell(isFloating, "3: " + node.getName() + " is no whole number");
        return super.visitVariable(node, nothing);
    }

    @Override
    public Void visitMethodInvocation(MethodInvocationTree node, Void nothing) {
        Element called = trees.getElement(new TreePath(getCurrentPath(), node.getMethodSelect()));
        Element caller = callerHere();
        if (called != null && isOwn(called)) {
            calls.computeIfAbsent(keyOf(caller), key -> new TreeSet<>()).add(keyOf(called));
        } else if (called != null && called.getKind() != ElementKind.CONSTRUCTOR) {
            tell(!LIBRARY.contains(nameOf(called)), "4: " + nameOf(called));
        }
        return super.visitMethodInvocation(node, nothing);
    }

    @Override
    public Void visitMemberSelect(MemberSelectTree node, Void nothing) {
        lookAtField(trees.getElement(getCurrentPath()));
        return super.visitMemberSelect(node, nothing);
    }

    @Override
    public Void visitIdentifier(IdentifierTree node, Void nothing) {
        lookAtField(trees.getElement(getCurrentPath()));
        return super.visitIdentifier(node, nothing);
    }

    private void lookAtField(Element element) {
        boolean isField = element != null && element.getKind() == ElementKind.FIELD;
        // an array's length is a field of no class
        if (isField && !element.getEnclosingElement().getSimpleName().contentEquals("Array")) {
            tell(!isOwn(element), "4: " + nameOf(element));
        }
    }

    // 6: what is not used at all

    @Override
    public Void visitThrow(ThrowTree node, Void nothing) {
        tell(true, "6: throw");
        return super.visitThrow(node, nothing);
    }

    @Override
    public Void visitTry(TryTree node, Void nothing) {
        tell(true, "6: try");
        return super.visitTry(node, nothing);
    }

    @Override
    public Void visitSynchronized(SynchronizedTree node, Void nothing) {
        tell(true, "6: synchronized");
        return super.visitSynchronized(node, nothing);
    }

    @Override
    public Void visitAssert(AssertTree node, Void nothing) {
        tell(true, "6: assert");
        return super.visitAssert(node, nothing);
    }

    @Override
    public Void visitLambdaExpression(LambdaExpressionTree node, Void nothing) {
        tell(true, "2: a lambda");
        return super.visitLambdaExpression(node, nothing);
    }

    @Override
    public Void visitMemberReference(MemberReferenceTree node, Void nothing) {
        tell(true, "2: a method reference");
        return super.visitMemberReference(node, nothing);
    }

    @Override
    public Void visitTypeCast(TypeCastTree node, Void nothing) {
        tell(!typeOf(node.getType()).getKind().isPrimitive(), "6: cast");
        return super.visitTypeCast(node, nothing);
    }

    @Override
    public Void visitBinary(BinaryTree node, Void nothing) {
        boolean hasText = isText(node.getLeftOperand()) || isText(node.getRightOperand());
        tell(hasText && node.getKind() == Tree.Kind.PLUS, "10: + of texts");
        tell(hasText && node.getKind() != Tree.Kind.PLUS, "6: == of texts");
        boolean divides = node.getKind() == Tree.Kind.DIVIDE || node.getKind() == Tree.Kind.REMAINDER;
        tell(divides && !isFirmDivisor(node.getRightOperand()), "7: " + node);
        return super.visitBinary(node, nothing);
    }

    @Override
    public Void visitCompoundAssignment(CompoundAssignmentTree node, Void nothing) {
        boolean divides = node.getKind() == Tree.Kind.DIVIDE_ASSIGNMENT
            || node.getKind() == Tree.Kind.REMAINDER_ASSIGNMENT;
        tell(divides && !isFirmDivisor(node.getExpression()), "7: " + node);
        tell(isText(node.getVariable()), "10: + of texts");
        return super.visitCompoundAssignment(node, nothing);
    }

    /** A number written out, or a constant. */
    private boolean isFirmDivisor(ExpressionTree divisor) {
        Element element = trees.getElement(new TreePath(getCurrentPath(), divisor));
        Object value = divisor instanceof LiteralTree literal ? literal.getValue()
            : element instanceof VariableElement variable ? variable.getConstantValue() : null;
        return value instanceof Number number && number.longValue() != 0;
    }

    // 9, 12: loops, and what is made in them

    private void lookAtLoop(String name, ExpressionTree condition) {
        ExpressionTree bare = condition instanceof ParenthesizedTree inside ? inside.getExpression() : condition;
        boolean isEndless = bare == null || bare instanceof LiteralTree;
        tell(isEndless, "9: " + name + " without an end");
    }

    @Override
    public Void visitForLoop(ForLoopTree node, Void nothing) {
        lookAtLoop("for", node.getCondition());
        loops++;
        super.visitForLoop(node, nothing);
        loops--;
        return null;
    }

    @Override
    public Void visitEnhancedForLoop(EnhancedForLoopTree node, Void nothing) {
        loops++;
        super.visitEnhancedForLoop(node, nothing);
        loops--;
        return null;
    }

    @Override
    public Void visitWhileLoop(WhileLoopTree node, Void nothing) {
        lookAtLoop("while", node.getCondition());
        loops++;
        super.visitWhileLoop(node, nothing);
        loops--;
        return null;
    }

    @Override
    public Void visitDoWhileLoop(DoWhileLoopTree node, Void nothing) {
        lookAtLoop("do", node.getCondition());
        loops++;
        super.visitDoWhileLoop(node, nothing);
        loops--;
        return null;
    }

    @Override
    public Void visitNewClass(NewClassTree node, Void nothing) {
        tell(loops > 0, "12: new in a loop");
        tell(node.getClassBody() != null, "2: a class without a name");
        tell(!isOwn(trees.getElement(getCurrentPath())), "4: new " + node.getIdentifier());
        return super.visitNewClass(node, nothing);
    }

    @Override
    public Void visitNewArray(NewArrayTree node, Void nothing) {
        tell(loops > 0, "12: new in a loop");
        for (ExpressionTree length : node.getDimensions()) {
            tell(!isFirmLength(length), "7: length " + length);
        }
        return super.visitNewArray(node, nothing);
    }

    /** Constants alone, so that no length can be below 0. */
    private boolean isFirmLength(ExpressionTree length) {
        Set<Boolean> parts = new HashSet<>();
        new TreePathScanner<Void, Void>() {
            @Override
            public Void visitIdentifier(IdentifierTree node, Void nothing) {
                Element element = trees.getElement(getCurrentPath());
                parts.add(element instanceof VariableElement variable && variable.getConstantValue() != null);
                return null;
            }
        }.scan(new TreePath(getCurrentPath(), length), null);
        return !parts.contains(false);
    }

    // 11: how deep calls go; methods that call themselves or one another count once

    private Element callerHere() {
        for (TreePath path = getCurrentPath(); path != null; path = path.getParentPath()) {
            if (path.getLeaf() instanceof MethodTree) {
                return trees.getElement(path);
            }
        }
        return null;
    }

    private static String keyOf(Element method) {
        if (!(method instanceof ExecutableElement)) {
            return "a field";
        }
        return method.getEnclosingElement().getSimpleName() + "." + method;
    }

    private void depths() {
        Map<String, Set<String>> reach = new TreeMap<>();
        for (String method : calls.keySet()) {
            Set<String> found = new TreeSet<>();
            follow(method, found);
            reach.put(method, found);
        }
        Map<String, Integer> known = new TreeMap<>();
        for (String method : calls.keySet()) {
            int depth = depthOf(method, reach, known);
            String name = method.substring(method.indexOf('.') + 1).replaceAll("\\(.*", "");
            tell(depth > MOST_CALLS_DEEP, "11: " + name + " goes " + depth + " deep");
        }
    }

    private void follow(String method, Set<String> found) {
        for (String called : calls.getOrDefault(method, Set.of())) {
            if (found.add(called)) {
                follow(called, found);
            }
        }
    }

    private int depthOf(String method, Map<String, Set<String>> reach, Map<String, Integer> known) {
        if (known.containsKey(method)) {
            return known.get(method);
        }
        Set<String> circle = new TreeSet<>(Set.of(method));
        for (String other : reach.getOrDefault(method, Set.of())) {
            if (reach.getOrDefault(other, Set.of()).contains(method)) {
                circle.add(other);
            }
        }
        int deepest = 0;
        for (String member : circle) {
            for (String called : calls.getOrDefault(member, Set.of())) {
                deepest = circle.contains(called) ? deepest : Math.max(deepest, depthOf(called, reach, known));
            }
        }
        known.put(method, deepest + 1);
        return deepest + 1;
    }
}
