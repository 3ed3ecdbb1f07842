import java.io.IOException;
import java.lang.reflect.Method;
import java.nio.file.Files;
import java.nio.file.Path;
import java.util.ArrayList;
import java.util.List;

/** The sentences that tests quote stand in the document, and each one that names a boundary has a test of its own. */
final class SentencesTest {
    private static final Path DOCUMENT = Path.of("..", "shared", "DOC.md");

    /** The words under "Terms" that name a boundary. */
    private static final String[] TERMS = {
        "there are at most 8",
        "a lower one is older",
        "the one with the lower number is older",
        "but 0 at least",
        "half of that, rounded down",
        "and 0 otherwise",
        "Of a well on itself it is 100",
        "amount * reach / 100, rounded down",
        "20 * reach / 100, rounded down",
        "To begin with nobody is stopped",
        "less than its limit",
        "above 0, however little it lowers them",
        "draws more than 0",
        "the oldest one is taken",
        "until there is no such well",
        "if that is above 0",
        "the mean, rounded down",
        "or 0 if there are none",
        "up to the right is free",
        "as far as that goes",
        "2 for each",
        "If less than the right is told",
        "never used for others",
        "a tenth, rounded up",
        "forgotten behind the year",
        "as far as the bank of the other one has it",
        "If several apply, IndexOutOfBoundsException goes first, then IllegalArgumentException",
        "A call that throws an exception changes nothing",
    };

    private SentencesTest() {
    }

    static void quotedSentencesStandInTheDocument() throws IOException {
        String terms = section("Terms");
        for (Method test : AllTests.tests()) {
            Sentence sentence = test.getAnnotation(Sentence.class);
            if (sentence != null) {
                boolean stands = terms.contains(sentence.value())
                        || rowsUnder(AllTests.promiseOf(test)).contains(sentence.value());
                Check.due(test.getName() + " quotes its promise or the terms", stands, true);
            }
        }
    }

    static void everyRowUnderAPromiseHasATest() throws IOException {
        for (int promise = 1; promise <= AllTests.PROMISES; promise++) {
            List<String> quoted = quotedFor(promise);
            for (String row : rowsUnder(promise)) {
                Check.due("promise " + promise + " has a test of its own for: " + row, quoted.contains(row), true);
            }
        }
    }

    static void everyBoundaryUnderTermsHasATest() throws IOException {
        String terms = section("Terms");
        String quoted = quoted();
        for (String boundary : TERMS) {
            Check.due("the terms have: " + boundary, terms.contains(boundary), true);
            Check.due("a test quotes: " + boundary, quoted.contains(boundary), true);
        }
    }

    /** What the document says between a heading and the next one. */
    private static String section(String heading) throws IOException {
        String document = Files.readString(DOCUMENT);
        int start = document.indexOf("\n## " + heading);
        int end = document.indexOf("\n## ", start + 1);
        return start < 0 ? "" : document.substring(start, end < 0 ? document.length() : end);
    }

    /** The lines under a promise that tell ranges, answers and exceptions; of the first promise what it begins with. */
    private static List<String> rowsUnder(int promise) throws IOException {
        List<String> rows = new ArrayList<>();
        for (String line : section("Promise " + promise + ":").split("\n")) {
            if (line.startsWith("- `") || line.startsWith("Returns ") || line.startsWith("Throws ")) {
                rows.add(line);
            } else if (promise == 1 && line.contains("`: ")) {
                rows.add(line.substring(line.indexOf("`: ") + 3));
            }
        }
        if (rows.isEmpty()) {
            Check.fault("the document has no row under promise " + promise);
        }
        return rows;
    }

    private static List<String> quotedFor(int promise) {
        List<String> quoted = new ArrayList<>();
        for (Method test : AllTests.tests()) {
            Sentence sentence = test.getAnnotation(Sentence.class);
            if (sentence != null && AllTests.promiseOf(test) == promise) {
                quoted.add(sentence.value());
            }
        }
        return quoted;
    }

    private static String quoted() {
        StringBuilder all = new StringBuilder();
        for (int promise = 1; promise <= AllTests.PROMISES; promise++) {
            for (String sentence : quotedFor(promise)) {
                all.append(sentence).append('\n');
            }
        }
        return all.toString();
    }
}
