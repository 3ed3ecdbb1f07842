import java.lang.reflect.Constructor;
import java.lang.reflect.Field;
import java.lang.reflect.Method;
import java.lang.reflect.Modifier;
import java.util.Arrays;
import java.util.TreeSet;

/** The public face: its names, types and declared exceptions, and nothing beside them. */
final class FaceTest {
    private static final String[] FACE = {
        "int addWell(int,int,int,int,int,int) IAE IOOBE ISE",
        "int plan(int,int) IAE IOOBE",
        "int setRecharge(int,int) IAE IOOBE",
        "int reach(int,int) IOOBE",
        "int level(int) IOOBE",
        "char sign(int,int) IOOBE",
        "int year() ISE",
        "int years()",
        "int wouldStop()",
        "int drew(int) IOOBE",
        "int told(int) IOOBE",
        "boolean toggleMeter(int) IOOBE",
        "int power(int,int) IAE IOOBE",
        "int bank(int) IOOBE",
        "int lend(int,int,int) IAE IOOBE ISE",
        "int callBack(int,int) IAE IOOBE",
        "int fines(int) IOOBE",
        "int fund()",
        "int build(int) IAE ISE",
    };

    private FaceTest() {
    }

    static void methodsAreThoseOfTheDocument() {
        TreeSet<String> got = new TreeSet<>();
        TreeSet<String> publicNames = new TreeSet<>();
        TreeSet<String> privateNames = new TreeSet<>();
        for (Method method : WellRights.class.getDeclaredMethods()) {
            if (Modifier.isPrivate(method.getModifiers())) {
                privateNames.add(method.getName());
            } else {
                got.add(written(method));
                publicNames.add(method.getName());
                Check.due(method.getName() + " is public", Modifier.isPublic(method.getModifiers()), true);
            }
        }
        Check.dueText("the face", got.toString(), new TreeSet<>(Arrays.asList(FACE)).toString());
        privateNames.retainAll(publicNames);
        Check.dueText("private methods with a public one's name", privateNames.toString(), "[]");
    }

    static void nothingElseIsOpen() {
        Check.due("modifiers", WellRights.class.getModifiers(), Modifier.PUBLIC | Modifier.FINAL);
        Constructor<?>[] constructors = WellRights.class.getDeclaredConstructors();
        Check.due("constructors", constructors.length, 1);
        Check.due("its parameters", constructors[0].getParameterCount(), 0);
        Check.due("it is public", Modifier.isPublic(constructors[0].getModifiers()), true);
        for (Field field : WellRights.class.getDeclaredFields()) {
            Check.due(field.getName() + " is private", Modifier.isPrivate(field.getModifiers()), true);
        }
        for (Class<?> inside : WellRights.class.getDeclaredClasses()) {
            int modifiers = inside.getModifiers();
            Check.due(inside + " is open", Modifier.isPublic(modifiers) || Modifier.isProtected(modifiers), false);
            Check.due(inside + " is static", Modifier.isStatic(modifiers), true);
        }
    }

    private static String written(Method method) {
        StringBuilder text = new StringBuilder();
        text.append(method.getReturnType().getName()).append(' ').append(method.getName()).append('(');
        String comma = "";
        for (Class<?> parameter : method.getParameterTypes()) {
            text.append(comma).append(parameter.getName());
            comma = ",";
        }
        text.append(')');
        TreeSet<String> exceptions = new TreeSet<>();
        for (Class<?> exception : method.getExceptionTypes()) {
            // The capitals alone, such as IAE for IllegalArgumentException.
            exceptions.add(exception.getSimpleName().replaceAll("[a-z]", ""));
        }
        for (String exception : exceptions) {
            text.append(' ').append(exception);
        }
        return text.toString();
    }
}
