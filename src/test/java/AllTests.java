import java.lang.reflect.InvocationTargetException;
import java.lang.reflect.Method;
import java.lang.reflect.Modifier;
import java.util.ArrayList;
import java.util.Arrays;
import java.util.Comparator;
import java.util.List;

/**
 * Runs every static method of the test classes; those that test promise N are named promiseN_what, those that test
 * rule N of the language ruleN_what.
 */
public final class AllTests {
    private static final Class<?>[] TEST_CLASSES = {
        FaceTest.class, WholeTest.class, WellsTest.class, YearsTest.class, MetersTest.class, BanksTest.class,
        RandomRunsTest.class, WellRowsTest.class, YearRowsTest.class, BankRowsTest.class, TermsTest.class,
        OrderTest.class, SentencesTest.class, LanguageTest.class, ReadmeTest.class
    };
    static final int PROMISES = 20;
    private static final int RULES = 13;

    private static int passed = 0;
    private static int failed = 0;

    private AllTests() {
    }

    public static void main(String[] args) throws IllegalAccessException {
        for (Method test : tests()) {
            run(test);
        }
        demandEach("promise", PROMISES);
        demandEach("rule", RULES);
        System.out.println(passed + " passed, " + failed + " failed");
        if (failed > 0) {
            System.exit(1);
        }
    }

    static List<Class<?>> classes() {
        return List.of(TEST_CLASSES);
    }

    /** The tests of all classes, one class behind the other. */
    static List<Method> tests() {
        List<Method> all = new ArrayList<>();
        for (Class<?> tests : TEST_CLASSES) {
            all.addAll(Arrays.asList(testsOf(tests)));
        }
        return all;
    }

    private static Method[] testsOf(Class<?> tests) {
        return Arrays.stream(tests.getDeclaredMethods())
                .filter(m -> Modifier.isStatic(m.getModifiers()) && !Modifier.isPrivate(m.getModifiers()))
                .filter(m -> !m.isSynthetic() && m.getParameterCount() == 0 && m.getReturnType() == void.class)
                .sorted(Comparator.comparing(Method::getName))
                .toArray(Method[]::new);
    }

    private static void run(Method test) throws IllegalAccessException {
        String name = test.getDeclaringClass().getName() + "." + test.getName();
        int before = Check.faults();
        try {
            test.invoke(null);
        } catch (InvocationTargetException wrapped) {
            Check.fault("threw " + wrapped.getCause());
        }
        if (Check.faults() == before) {
            passed++;
        } else {
            failed++;
            Sentence sentence = test.getAnnotation(Sentence.class);
            System.out.println("FAILED " + name + (sentence == null ? "" : ": " + sentence.value()));
        }
    }

    /** Each number up to the last one has a test. */
    private static void demandEach(String kind, int last) {
        for (int number = 1; number <= last; number++) {
            int wanted = number;
            if (tests().stream().noneMatch(test -> numberBehind(kind, test) == wanted)) {
                failed++;
                System.out.println(kind + " " + number + " has no test");
            }
        }
    }

    /** The promise that a test's name tells, or 0. */
    static int promiseOf(Method test) {
        return numberBehind("promise", test);
    }

    private static int numberBehind(String kind, Method test) {
        String name = test.getName();
        if (!name.matches(kind + "\\d+_.*")) {
            return 0;
        }
        return Integer.parseInt(name.substring(kind.length(), name.indexOf('_')));
    }
}
