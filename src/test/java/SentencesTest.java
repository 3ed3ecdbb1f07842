import java.io.IOException;
import java.lang.reflect.Method;
import java.util.ArrayList;
import java.util.List;

/** The sentences that tests quote stand in the document, and each sentence of the document has a test that quotes it. */
final class SentencesTest {
    /** The words under "Terms" that name a boundary; a clause may hold several. */
    private static final String[] TERMS = {
        "there are at most 8",
        "a lower one is older",
        "the one with the lower number is older",
        "but 0 at least",
        "half of that, rounded down",
        "and 0 otherwise",
        "Of a well on itself it is 100",
        "amount * reach / 100, rounded down",
        "20 * reach / 100, rounded down",
        "To begin with nobody is stopped",
        "less than its limit",
        "above 0, however little it lowers them",
        "draws more than 0",
        "the oldest one is taken",
        "until there is no such well",
        "if that is above 0",
        "the mean, rounded down",
        "or 0 if there are none",
        "up to the right is free",
        "as far as that goes",
        "2 for each",
        "If less than the right is told",
        "never used for others",
        "a tenth, rounded up",
        "forgotten behind the year",
        "as far as the bank of the other one has it",
        "If several apply, IndexOutOfBoundsException goes first, then IllegalArgumentException",
        "A call that throws an exception changes nothing",
    };

    private SentencesTest() {
    }

    static void theDocumentHasNoSectionThatNobodyReads() throws IOException {
        List<String> headings = Document.headings();
        Check.due("headings", headings.size(), 3 + AllTests.PROMISES + 1);
        Check.dueText("first", headings.subList(0, 3).toString(), "[What it is, The public face, Terms]");
        for (int promise = 1; promise <= AllTests.PROMISES; promise++) {
            Check.due("promise " + promise, headings.get(2 + promise).startsWith("Promise " + promise + ":"), true);
        }
        Check.dueText("last", headings.get(headings.size() - 1), "Not promised");
    }

    static void quotedSentencesStandInTheDocument() throws IOException {
        String ahead = Document.section("What it is") + Document.section("Terms");
        for (Method test : AllTests.tests()) {
            Sentence sentence = test.getAnnotation(Sentence.class);
            if (sentence != null) {
                int promise = AllTests.promiseOf(test);
                boolean stands = ahead.contains(sentence.value())
                        || (promise > 0 && Document.rowsUnder(promise).contains(sentence.value()));
                Check.due(test.getName() + " quotes its promise, the terms or what it is", stands, true);
            }
        }
    }

    static void everyRowUnderAPromiseHasATest() throws IOException {
        for (int promise = 1; promise <= AllTests.PROMISES; promise++) {
            List<String> quoted = quotedFor(promise);
            List<String> rows = Document.rowsUnder(promise);
            Check.due("promise " + promise + " has rows", rows.isEmpty(), false);
            for (String row : rows) {
                Check.due("promise " + promise + " has a test of its own for: " + row, quoted.contains(row), true);
            }
        }
    }

    static void everyClauseOfWhatItIsHasATest() throws IOException {
        for (String clause : Document.clausesOf(Document.section("What it is"))) {
            // What is free has nothing that a test could find wrong.
            if (!clause.equals("what later calls answer is free")) {
                Check.due("a test quotes: " + clause, isQuoted(clause), true);
            }
        }
    }

    static void everyClauseUnderTermsHasATest() throws IOException {
        for (String clause : Document.clausesOf(Document.section("Terms"))) {
            // FaceTest reads these out of the document itself.
            if (!clause.contains("the interface says: ---- ")) {
                Check.due("a test quotes: " + clause, isQuoted(clause), true);
            }
        }
    }

    static void everyBoundaryUnderTermsHasATest() throws IOException {
        String terms = Document.section("Terms");
        String quoted = String.join("\n", quoted());
        for (String boundary : TERMS) {
            Check.due("the terms have: " + boundary, terms.contains(boundary), true);
            Check.due("a test quotes: " + boundary, quoted.contains(boundary), true);
        }
    }

    private static boolean isQuoted(String clause) {
        for (String quote : quoted()) {
            if (quote.contains(clause) || clause.contains(quote)) {
                return true;
            }
        }
        return false;
    }

    private static List<String> quoted() {
        List<String> quoted = new ArrayList<>();
        for (Method test : AllTests.tests()) {
            Sentence sentence = test.getAnnotation(Sentence.class);
            if (sentence != null) {
                quoted.add(sentence.value());
            }
        }
        return quoted;
    }

    private static List<String> quotedFor(int promise) {
        List<String> quoted = new ArrayList<>();
        for (Method test : AllTests.tests()) {
            Sentence sentence = test.getAnnotation(Sentence.class);
            if (sentence != null && AllTests.promiseOf(test) == promise) {
                quoted.add(sentence.value());
            }
        }
        return quoted;
    }
}
