import java.io.IOException;
import java.net.URL;
import java.net.URLClassLoader;
import java.nio.file.Files;
import java.nio.file.Path;
import java.util.ArrayList;
import java.util.List;
import java.util.concurrent.Callable;
import java.util.regex.Matcher;
import java.util.regex.Pattern;
import javax.tools.ToolProvider;

/** README.md: the calls that it shows answer what it says behind them, and it tells of each test. */
final class ReadmeTest {
    private static final Path README = Path.of("README.md");
    private static final Path TESTS = Path.of("src", "test", "java");
    private static final Pattern SHOWN = Pattern.compile(
            "(?:int (\\w+) = )?(rights\\.\\w+\\(.*\\)); *// (-?\\d+|true|false|'.'|\\w+Exception)(: .*)?");

    private ReadmeTest() {
    }

    static void theCallsAnswerWhatItSays() throws Exception {
        List<Matcher> calls = new ArrayList<>();
        String source = sourceOf(Files.readString(README), calls);
        List<Object> answers = answersOf(source);
        Check.due("answers", answers.size(), calls.size());
        for (int k = 0; k < Math.min(answers.size(), calls.size()); k++) {
            String due = calls.get(k).group(3).replace("'", "");
            Check.dueText("README.md: " + calls.get(k).group(2), "" + answers.get(k), due);
        }
    }

    static void everyCallOfTheFaceIsShown() throws IOException {
        String readme = Files.readString(README);
        for (String line : Document.faceLines()) {
            String name = line.substring(0, line.indexOf('(')).replaceAll(".* ", "");
            boolean isShown = readme.contains("rights." + name + "(") || readme.contains("new " + name + "(");
            Check.due("README.md shows " + name, isShown, true);
        }
    }

    static void everyTestIsToldOf() throws IOException {
        String readme = Files.readString(README);
        for (Class<?> tests : AllTests.classes()) {
            Check.due("README.md tells of " + tests.getName(), readme.contains("`" + tests.getName() + "`"), true);
        }
        Check.due("how to run them", readme.contains("\n    .ci/run\n"), true);
        Check.due(".ci/run is there to be run", Files.isExecutable(Path.of(".ci", "run")), true);
    }

    static void everyTestFileIsRun() throws IOException {
        List<String> names = new ArrayList<>();
        for (Class<?> tests : AllTests.classes()) {
            names.add(tests.getName() + ".java");
        }
        try (var files = Files.newDirectoryStream(TESTS, "*Test.java")) {
            for (Path file : files) {
                Check.due("AllTests runs " + file, names.contains(file.getFileName().toString()), true);
            }
        }
    }

    /** A class whose call makes the calls of README.md, block by block, and gives their answers. */
    private static String sourceOf(String readme, List<Matcher> calls) {
        StringBuilder source = new StringBuilder("public final class ReadmeCalls"
                + " implements java.util.concurrent.Callable<java.util.List<Object>> {\n"
                + "public java.util.List<Object> call() {\n"
                + "java.util.List<Object> answers = new java.util.ArrayList<>();\n");
        boolean isJava = false;
        for (String line : readme.split("\n")) {
            if (line.startsWith("```")) {
                isJava = line.equals("```java");
                source.append(isJava ? "{\n" : "}\n");
            } else if (isJava) {
                source.append(lineOf(line, calls));
            }
        }
        return source.append("return answers;\n}\n}\n").toString();
    }

    private static String lineOf(String line, List<Matcher> calls) {
        Matcher shown = SHOWN.matcher(line);
        if (!shown.matches()) {
            Check.due("README.md tells an answer behind: " + line, line.contains("rights."), false);
            return line + "\n";
        }
        calls.add(shown);
        if (shown.group(1) != null) {
            return line + "\nanswers.add(" + shown.group(1) + ");\n";
        }
        return "try { answers.add(" + shown.group(2) + "); } catch (RuntimeException thrown) {"
                + " answers.add(thrown.getClass().getSimpleName()); }\n";
    }

    @SuppressWarnings("unchecked")
    private static List<Object> answersOf(String source) throws Exception {
        Path folder = Files.createTempDirectory("readme");
        Path file = folder.resolve("ReadmeCalls.java");
        Path compiled = folder.resolve("ReadmeCalls.class");
        try {
            Files.writeString(file, source);
            int exit = ToolProvider.getSystemJavaCompiler().run(null, null, null,
                    "-proc:none", "-cp", System.getProperty("java.class.path"), "-d", folder.toString(), file.toString());
            Check.due("javac on the calls of README.md", exit, 0);
            if (exit != 0) {
                return List.of();
            }
            try (URLClassLoader loader = new URLClassLoader(new URL[] {folder.toUri().toURL()})) {
                Object made = loader.loadClass("ReadmeCalls").getDeclaredConstructor().newInstance();
                return ((Callable<List<Object>>) made).call();
            }
        } finally {
            Files.deleteIfExists(file);
            Files.deleteIfExists(compiled);
            Files.delete(folder);
        }
    }
}
