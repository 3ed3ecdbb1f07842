import java.lang.reflect.InvocationTargetException;
import java.lang.reflect.Method;
import java.lang.reflect.Modifier;
import java.util.ArrayList;
import java.util.Arrays;
import java.util.Comparator;
import java.util.List;

/** Runs every static method of the test classes; those that test promise N are named promiseN_what. */
public final class AllTests {
    private static final Class<?>[] TEST_CLASSES = {
        FaceTest.class, WellsTest.class, YearsTest.class, MetersTest.class, BanksTest.class, RandomRunsTest.class,
        WellRowsTest.class, YearRowsTest.class, BankRowsTest.class, TermsTest.class, OrderTest.class, SentencesTest.class
    };
    static final int PROMISES = 20;

    private static int passed = 0;
    private static int failed = 0;

    private AllTests() {
    }

    public static void main(String[] args) throws IllegalAccessException {
        boolean[] tested = new boolean[PROMISES + 1];
        for (Method test : tests()) {
            run(test);
            int promise = promiseOf(test);
            if (promise <= PROMISES) {
                tested[promise] = true;
            }
        }
        for (int promise = 1; promise <= PROMISES; promise++) {
            if (!tested[promise]) {
                failed++;
                System.out.println("promise " + promise + " has no test");
            }
        }
        System.out.println(passed + " passed, " + failed + " failed");
        if (failed > 0) {
            System.exit(1);
        }
    }

    /** The tests of all classes, one class behind the other. */
    static List<Method> tests() {
        List<Method> all = new ArrayList<>();
        for (Class<?> tests : TEST_CLASSES) {
            all.addAll(Arrays.asList(testsOf(tests)));
        }
        return all;
    }

    private static Method[] testsOf(Class<?> tests) {
        return Arrays.stream(tests.getDeclaredMethods())
                .filter(m -> Modifier.isStatic(m.getModifiers()) && !Modifier.isPrivate(m.getModifiers()))
                .filter(m -> !m.isSynthetic() && m.getParameterCount() == 0)
                .sorted(Comparator.comparing(Method::getName))
                .toArray(Method[]::new);
    }

    private static void run(Method test) throws IllegalAccessException {
        String name = test.getDeclaringClass().getName() + "." + test.getName();
        int before = Check.faults();
        try {
            test.invoke(null);
        } catch (InvocationTargetException wrapped) {
            Check.fault("threw " + wrapped.getCause());
        }
        if (Check.faults() == before) {
            passed++;
        } else {
            failed++;
            Sentence sentence = test.getAnnotation(Sentence.class);
            System.out.println("FAILED " + name + (sentence == null ? "" : ": " + sentence.value()));
        }
    }

    /** The promise that a test's name tells, or 0. */
    static int promiseOf(Method test) {
        String name = test.getName();
        if (!name.startsWith("promise")) {
            return 0;
        }
        return Integer.parseInt(name.substring("promise".length(), name.indexOf('_')));
    }
}
