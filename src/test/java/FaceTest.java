import com.sun.source.tree.MethodTree;
import com.sun.source.tree.Tree;
import com.sun.source.tree.Tree.Kind;
import com.sun.source.util.TreePath;
import java.io.IOException;
import java.lang.reflect.Constructor;
import java.lang.reflect.Field;
import java.lang.reflect.Method;
import java.lang.reflect.Modifier;
import java.util.ArrayList;
import java.util.Arrays;
import java.util.List;
import java.util.TreeSet;
import java.util.regex.Matcher;
import java.util.regex.Pattern;

/** The public face: its names, types and declared exceptions, and nothing beside them. */
final class FaceTest {
    private static final String[] FACE = {
        "int addWell(int,int,int,int,int,int) IAE IOOBE ISE",
        "int plan(int,int) IAE IOOBE",
        "int setRecharge(int,int) IAE IOOBE",
        "int reach(int,int) IOOBE",
        "int level(int) IOOBE",
        "char sign(int,int) IOOBE",
        "int year() ISE",
        "int years()",
        "int wouldStop()",
        "int drew(int) IOOBE",
        "int told(int) IOOBE",
        "boolean toggleMeter(int) IOOBE",
        "int power(int,int) IAE IOOBE",
        "int bank(int) IOOBE",
        "int lend(int,int,int) IAE IOOBE ISE",
        "int callBack(int,int) IAE IOOBE",
        "int fines(int) IOOBE",
        "int fund()",
        "int build(int) IAE ISE",
    };
    private static final Pattern AHEAD = Pattern.compile("Ahead of the calls? (.*) the interface says: ---- (.*)\\.");

    private FaceTest() {
    }

    static void methodsAreThoseOfTheDocument() {
        TreeSet<String> got = new TreeSet<>();
        TreeSet<String> publicNames = new TreeSet<>();
        TreeSet<String> privateNames = new TreeSet<>();
        for (Method method : WellRights.class.getDeclaredMethods()) {
            if (Modifier.isPrivate(method.getModifiers())) {
                privateNames.add(method.getName());
            } else {
                got.add(written(method));
                publicNames.add(method.getName());
                Check.due(method.getName() + " is public", Modifier.isPublic(method.getModifiers()), true);
            }
        }
        Check.dueText("the face", got.toString(), new TreeSet<>(Arrays.asList(FACE)).toString());
        privateNames.retainAll(publicNames);
        Check.dueText("private methods with a public one's name", privateNames.toString(), "[]");
    }

    static void declarationsReadAsInTheDocument() throws IOException {
        List<String> declared = new ArrayList<>();
        for (TreePath path : Program.all(Kind.METHOD)) {
            MethodTree method = (MethodTree) path.getLeaf();
            if (method.getModifiers().getFlags().contains(javax.lang.model.element.Modifier.PUBLIC)) {
                declared.add(declaration(method));
            }
        }
        Check.dueText("the face", String.join("\n", declared), String.join("\n", Document.faceLines()));
        String face = Document.section("The public face");
        Check.due("the class", face.contains("\npublic final class WellRights {\n"), true);
    }

    private static String declaration(MethodTree method) {
        StringBuilder text = new StringBuilder("public ");
        boolean isConstructor = method.getReturnType() == null;
        text.append(isConstructor ? "WellRights" : method.getReturnType() + " " + method.getName());
        text.append('(').append(joined(method.getParameters())).append(')');
        text.append(method.getThrows().isEmpty() ? "" : " throws " + joined(method.getThrows()));
        return text.append(';').toString();
    }

    private static String joined(List<? extends Tree> parts) {
        List<String> texts = new ArrayList<>();
        for (Tree part : parts) {
            texts.add(part.toString());
        }
        return String.join(", ", texts);
    }

    static void groupsOfCallsAreThoseOfTheDocument() throws IOException {
        int groups = 0;
        for (String line : Document.section("Terms").split("\n")) {
            Matcher ahead = AHEAD.matcher(line);
            if (ahead.matches()) {
                groups++;
                String due = ahead.group(1).replace("`", "");
                Check.dueText("calls behind " + ahead.group(2), callsBehind("// ---- " + ahead.group(2)), due);
            }
        }
        Check.due("groups", groups, 4);
    }

    /** The public methods between a comment of the source and the next one like it. */
    private static String callsBehind(String comment) throws IOException {
        List<String> calls = new ArrayList<>();
        boolean isBehind = false;
        for (String line : Program.lines()) {
            if (line.contains("// ----")) {
                isBehind = line.trim().equals(comment);
            } else if (isBehind && line.startsWith("    public ")) {
                calls.add(line.substring(0, line.indexOf('(')).replaceAll(".* ", ""));
            }
        }
        return String.join(", ", calls);
    }

    static void nothingElseIsOpen() {
        Check.due("modifiers", WellRights.class.getModifiers(), Modifier.PUBLIC | Modifier.FINAL);
        Constructor<?>[] constructors = WellRights.class.getDeclaredConstructors();
        Check.due("constructors", constructors.length, 1);
        Check.due("its parameters", constructors[0].getParameterCount(), 0);
        Check.due("its exceptions", constructors[0].getExceptionTypes().length, 0);
        Check.due("it is public", Modifier.isPublic(constructors[0].getModifiers()), true);
        Check.due("what it extends", WellRights.class.getSuperclass() == Object.class, true);
        Check.due("what it implements", WellRights.class.getInterfaces().length, 0);
        for (Field field : WellRights.class.getDeclaredFields()) {
            Check.due(field.getName() + " is private", Modifier.isPrivate(field.getModifiers()), true);
        }
        for (Class<?> inside : WellRights.class.getDeclaredClasses()) {
            int modifiers = inside.getModifiers();
            Check.due(inside + " is open", Modifier.isPublic(modifiers) || Modifier.isProtected(modifiers), false);
            Check.due(inside + " is static", Modifier.isStatic(modifiers), true);
        }
    }

    private static String written(Method method) {
        StringBuilder text = new StringBuilder();
        text.append(method.getReturnType().getName()).append(' ').append(method.getName()).append('(');
        String comma = "";
        for (Class<?> parameter : method.getParameterTypes()) {
            text.append(comma).append(parameter.getName());
            comma = ",";
        }
        text.append(')');
        TreeSet<String> exceptions = new TreeSet<>();
        for (Class<?> exception : method.getExceptionTypes()) {
            // The capitals alone, such as IAE for IllegalArgumentException.
            exceptions.add(exception.getSimpleName().replaceAll("[a-z]", ""));
        }
        for (String exception : exceptions) {
            text.append(' ').append(exception);
        }
        return text.toString();
    }
}
