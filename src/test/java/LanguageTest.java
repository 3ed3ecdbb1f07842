import com.sun.source.tree.ClassTree;
import com.sun.source.tree.EnhancedForLoopTree;
import com.sun.source.tree.ExpressionTree;
import com.sun.source.tree.ForLoopTree;
import com.sun.source.tree.ImportTree;
import com.sun.source.tree.LiteralTree;
import com.sun.source.tree.MethodInvocationTree;
import com.sun.source.tree.MethodTree;
import com.sun.source.tree.NewClassTree;
import com.sun.source.tree.ThrowTree;
import com.sun.source.tree.Tree;
import com.sun.source.tree.Tree.Kind;
import com.sun.source.tree.TryTree;
import com.sun.source.tree.VariableTree;
import com.sun.source.util.TreePath;
import java.io.IOException;
import java.util.ArrayList;
import java.util.HashMap;
import java.util.HashSet;
import java.util.List;
import java.util.Map;
import java.util.Set;
import javax.lang.model.element.Element;
import javax.lang.model.element.ElementKind;
import javax.lang.model.element.Modifier;

/**
 * The rules of ../shared/LANGUAGE.md, as far as the source can tell. Where a rule allows more than WellRights needs
 * (a while loop, a recursion with a guard), the test asks for the less; it may grow with the class, up to the rule.
 */
final class LanguageTest {
    private static final Set<String> IMPORTS = Set.of(
            "java.util.ArrayList", "java.util.List", "java.util.Arrays", "java.util.Iterator",
            "java.util.NoSuchElementException");
    private static final Set<String> OWN_TYPES = Set.of("WellRights", "WellRights.Well");
    private static final Set<String> PLAIN_TYPES = Set.of(
            "void", "int", "long", "short", "byte", "char", "boolean", "double", "float");
    private static final Set<String> LIBRARY_TYPES = Set.of("java.lang.String", "java.lang.StringBuilder");
    private static final Set<String> CONSTANT_TYPES = Set.of(
            "int", "long", "boolean", "char", "java.lang.String", "int[]", "long[]", "char[]", "byte[]");
    private static final Set<String> EXCEPTIONS = Set.of(
            "IllegalStateException", "IllegalArgumentException", "IndexOutOfBoundsException", "ArithmeticException",
            "UnsupportedOperationException", "NoSuchElementException", "RuntimeException");
    private static final Map<String, Set<String>> LIBRARY = Map.of(
            "java.lang.String", Set.of("length", "charAt", "isEmpty", "equals", "indexOf", "substring", "toCharArray"),
            "java.lang.StringBuilder", Set.of("append", "charAt", "setCharAt", "setLength", "deleteCharAt", "reverse",
                    "length", "toString"),
            "java.lang.AbstractStringBuilder", Set.of("charAt", "setCharAt", "setLength", "length"),
            "java.util.ArrayList", Set.of("add", "get", "set", "remove", "size", "isEmpty", "clear"),
            "java.util.List", Set.of("add", "get", "set", "remove", "size", "isEmpty", "clear", "of"),
            "java.lang.System", Set.of("arraycopy"),
            "java.util.Arrays", Set.of("copyOf", "copyOfRange", "fill"));
    private static final Set<String> COUNTING = Set.of("java.lang.Integer", "java.lang.Long", "java.lang.Math");
    private static final Kind[] LOOPS = {Kind.FOR_LOOP, Kind.ENHANCED_FOR_LOOP, Kind.WHILE_LOOP, Kind.DO_WHILE_LOOP};
    private static final int MOST_DEEP = 8;

    private LanguageTest() {
    }

    private static void none(String rule, List<TreePath> found) {
        for (TreePath path : found) {
            Check.fault(rule + ", " + Program.where(path));
        }
    }

    static void rule1_oneFileOneClass() {
        Check.due("a package line", Program.unit().getPackage() != null, false);
        Check.due("classes beside each other", Program.unit().getTypeDecls().size(), 1);
        for (ImportTree taken : Program.unit().getImports()) {
            String name = taken.getQualifiedIdentifier().toString();
            Check.due("import of " + name, IMPORTS.contains(name) && !taken.isStatic(), true);
        }
    }

    static void rule2_noLambdaAndNoClassInAMethod() {
        none("a lambda or method reference", Program.all(Kind.LAMBDA_EXPRESSION, Kind.MEMBER_REFERENCE));
        for (TreePath path : Program.all(Kind.CLASS, Kind.RECORD, Kind.ENUM, Kind.INTERFACE)) {
            boolean isOuter = path.getParentPath().getLeaf() == Program.unit();
            Check.due("is inside a method: " + Program.where(path), Program.methodAround(path) == null, true);
            Set<Modifier> modifiers = ((ClassTree) path.getLeaf()).getModifiers().getFlags();
            Check.due("is static: " + Program.where(path), isOuter || modifiers.contains(Modifier.STATIC), true);
        }
    }

    static void rule3_typesOfAllNames() {
        for (TreePath path : Program.all(Kind.VARIABLE)) {
            Check.due("type at " + Program.where(path), isAllowedType(Program.typeOf(path).toString()), true);
        }
        for (TreePath path : Program.all(Kind.METHOD)) {
            Tree answer = ((MethodTree) path.getLeaf()).getReturnType();
            if (answer != null) {
                String type = Program.typeOf(new TreePath(path, answer)).toString();
                Check.due("answer of " + Program.where(path), isAllowedType(type), true);
            }
        }
    }

    private static boolean isAllowedType(String type) {
        if (type.endsWith("[][]")) {
            return PLAIN_TYPES.contains(type.substring(0, type.length() - 4));
        }
        if (type.endsWith("[]")) {
            String of = type.substring(0, type.length() - 2);
            return PLAIN_TYPES.contains(of) || OWN_TYPES.contains(of);
        }
        if (type.startsWith("java.util.ArrayList<") || type.startsWith("java.util.List<")) {
            String of = type.substring(type.indexOf('<') + 1, type.length() - 1);
            return of.equals("java.lang.Integer") || OWN_TYPES.contains(of);
        }
        return PLAIN_TYPES.contains(type) || OWN_TYPES.contains(type) || LIBRARY_TYPES.contains(type);
    }

    static void rule4_libraryCalls() {
        for (TreePath path : Program.all(Kind.METHOD_INVOCATION)) {
            Element called = called(path);
            String owner = called.getEnclosingElement().toString();
            String name = called.getSimpleName().toString();
            boolean counts = COUNTING.contains(owner) && !name.endsWith("Exact");
            boolean isBeginning = called.getKind() == ElementKind.CONSTRUCTOR;
            boolean isListed = LIBRARY.getOrDefault(owner, Set.of()).contains(name);
            Check.due(owner + "." + name, OWN_TYPES.contains(owner) || counts || isBeginning || isListed, true);
        }
        for (TreePath path : Program.all(Kind.NEW_CLASS)) {
            String type = ((NewClassTree) path.getLeaf()).getIdentifier().toString();
            boolean isOwn = OWN_TYPES.contains(Program.typeOf(path).toString());
            boolean isListed = type.startsWith("ArrayList<") || type.equals("StringBuilder") || type.equals("String");
            Check.due(Program.where(path), isOwn || isListed || EXCEPTIONS.contains(type), true);
        }
    }

    static void rule4_constantsHaveSignsUpTo127() throws IOException {
        int number = 0;
        for (String line : Program.lines()) {
            number++;
            Check.due("plain signs in line " + number, line.chars().allMatch(sign -> sign >= 1 && sign <= 127), true);
        }
    }

    private static Element called(TreePath call) {
        ExpressionTree select = ((MethodInvocationTree) call.getLeaf()).getMethodSelect();
        return Program.elementOf(new TreePath(call, select));
    }

    static void rule5_staticFieldsAreConstants() {
        for (TreePath path : Program.all(Kind.VARIABLE)) {
            VariableTree variable = (VariableTree) path.getLeaf();
            if (variable.getModifiers().getFlags().contains(Modifier.STATIC)) {
                Check.due("final: " + variable, variable.getModifiers().getFlags().contains(Modifier.FINAL), true);
                Check.due("type of " + variable, CONSTANT_TYPES.contains(Program.typeOf(path).toString()), true);
            }
        }
        for (TreePath path : Program.all(Kind.BLOCK)) {
            Check.due("a block of a class", path.getParentPath().getLeaf() instanceof ClassTree, false);
        }
    }

    static void rule6_throws() {
        for (TreePath path : Program.all(Kind.THROW)) {
            ExpressionTree thrown = ((ThrowTree) path.getLeaf()).getExpression();
            boolean isPlain = thrown instanceof NewClassTree && isPlainException((NewClassTree) thrown);
            Check.due("a new exception with a written text, " + Program.where(path), isPlain, true);
            String around = ((MethodTree) Program.methodAround(path).getLeaf()).getName().toString();
            Check.due("in a constructor, " + Program.where(path), around.equals("<init>"), false);
            Check.due("in a try, " + Program.where(path), Program.isInside(path, Kind.TRY), false);
        }
        for (TreePath path : Program.all(Kind.TRY)) {
            TryTree attempt = (TryTree) path.getLeaf();
            boolean isPlain = attempt.getFinallyBlock() == null && attempt.getResources().isEmpty();
            Check.due("a plain try, " + Program.where(path), isPlain, true);
        }
        none("not allowed", Program.all(Kind.SYNCHRONIZED, Kind.ASSERT));
    }

    private static boolean isPlainException(NewClassTree made) {
        boolean isText = made.getArguments().isEmpty()
                || (made.getArguments().size() == 1 && made.getArguments().get(0) instanceof LiteralTree);
        return isText && EXCEPTIONS.contains(made.getIdentifier().toString()) && made.getClassBody() == null;
    }

    static void rule7_nothingThrowsByItself() {
        int[] numbers = {Integer.MIN_VALUE, -10001, -1, 0, 1, 2, 3, 7, 8, 99, 100, 1000, 2000, 10000, Integer.MAX_VALUE};
        Worlds.World[] worlds = {WellRights::new, () -> Worlds.apart(8), Worlds::busy, Worlds::full};
        for (Worlds.World world : worlds) {
            WellRights rights = world.make();
            for (int first : numbers) {
                for (int second : numbers) {
                    for (String call : RandomRunsTest.names()) {
                        int[] arguments = {first, second, first, second, second, second};
                        String answer = RandomRunsTest.answer(rights, call, arguments);
                        Check.due(call + " " + first + " " + second + " answered " + answer,
                                answer.endsWith("of the machine or the library"), false);
                    }
                }
            }
        }
    }

    static void rule8_noMethodCallsItself() {
        Map<Element, Set<Element>> calls = calls();
        for (Element method : calls.keySet()) {
            Check.due("depth below " + method, depth(method, calls, 0) <= MOST_DEEP, true);
        }
    }

    private static Map<Element, Set<Element>> calls() {
        Map<Element, Set<Element>> calls = new HashMap<>();
        for (TreePath path : Program.all(Kind.METHOD)) {
            calls.put(Program.elementOf(path), new HashSet<>());
        }
        for (TreePath path : Program.all(Kind.METHOD_INVOCATION, Kind.NEW_CLASS)) {
            Element called = path.getLeaf().getKind() == Kind.NEW_CLASS ? Program.elementOf(path) : called(path);
            TreePath around = Program.methodAround(path);
            if (around != null && calls.containsKey(called)) {
                calls.get(Program.elementOf(around)).add(called);
            }
        }
        return calls;
    }

    /** How many own calls stand open at once below a method; beyond the most for a method that calls itself. */
    private static int depth(Element method, Map<Element, Set<Element>> calls, int open) {
        int deepest = 0;
        if (open <= MOST_DEEP) {
            for (Element called : calls.get(method)) {
                deepest = Math.max(deepest, 1 + depth(called, calls, open + 1));
            }
        }
        return deepest;
    }

    static void rule9_loopsCountToAnEnd() {
        none("a loop without a counter", Program.all(Kind.WHILE_LOOP, Kind.DO_WHILE_LOOP));
        for (TreePath path : Program.all(Kind.FOR_LOOP)) {
            ForLoopTree loop = (ForLoopTree) path.getLeaf();
            boolean counts = loop.getInitializer().size() == 1 && loop.getCondition() != null && loop.getUpdate().size() == 1;
            Check.due("counts, " + Program.where(path), counts, true);
        }
        for (TreePath path : Program.all(Kind.ENHANCED_FOR_LOOP)) {
            ExpressionTree over = ((EnhancedForLoopTree) path.getLeaf()).getExpression();
            String type = Program.typeOf(new TreePath(path, over)).toString();
            Check.due("over an array, " + Program.where(path), type.endsWith("[]"), true);
        }
    }

    static void rule10_textsAreNotJoinedByPlus() {
        for (TreePath path : Program.all(Kind.PLUS, Kind.PLUS_ASSIGNMENT)) {
            Check.due(Program.where(path), Program.typeOf(path).toString().equals("java.lang.String"), false);
        }
    }

    static void rule11_sizes() {
        int classes = 0;
        for (TreePath path : Program.all(Kind.CLASS, Kind.RECORD, Kind.ENUM, Kind.INTERFACE)) {
            classes++;
            int fields = 0;
            for (Tree member : ((ClassTree) path.getLeaf()).getMembers()) {
                boolean isField = member instanceof VariableTree
                        && !((VariableTree) member).getModifiers().getFlags().contains(Modifier.STATIC);
                fields += isField ? 1 : 0;
            }
            Check.due("some twenty fields, " + Program.where(path), fields <= 20, true);
        }
        Check.due("some twelve classes", classes <= 12, true);
        for (TreePath path : Program.all(Kind.METHOD)) {
            MethodTree method = (MethodTree) path.getLeaf();
            Check.due("seven parameters, " + method.getName(), method.getParameters().size() <= 7, true);
            Check.due("some sixty lines, " + method.getName(), Program.linesOf(method) <= 60, true);
        }
    }

    static void rule12_objectsAreMadeOutsideLoops() {
        for (TreePath path : Program.all(Kind.NEW_CLASS, Kind.NEW_ARRAY)) {
            Check.due("made in a loop, " + Program.where(path), Program.isInside(path, LOOPS), false);
        }
    }

    static void rule12_onlyAddingAWellKeepsObjects() {
        Set<String> makers = new HashSet<>();
        for (TreePath path : Program.all(Kind.NEW_CLASS, Kind.NEW_ARRAY)) {
            if (!Program.isInside(path, Kind.THROW)) {
                String method = ((MethodTree) Program.methodAround(path).getLeaf()).getName().toString();
                makers.add(Program.classAround(path).getSimpleName() + "." + method);
            }
        }
        Check.due("makers " + makers,
                Set.of("WellRights.<init>", "WellRights.addWell", "Well.<init>", "Well.textOf").containsAll(makers), true);
    }

    static void rule13_theSameCallsGiveTheSameAnswers() {
        List<String> first = new ArrayList<>();
        List<String> second = new ArrayList<>();
        for (List<String> answers : List.of(first, second)) {
            WellRights rights = Worlds.busy();
            for (int k = 0; k < 400; k++) {
                int[] arguments = {k % 9, k % 7, k % 11, k % 13, k % 17, k % 19};
                String call = RandomRunsTest.names()[k % RandomRunsTest.names().length];
                answers.add(call + " " + RandomRunsTest.answer(rights, call, arguments));
            }
        }
        Check.dueText("the second time", second.toString(), first.toString());
    }
}
