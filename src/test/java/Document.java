import java.io.IOException;
import java.nio.file.Files;
import java.nio.file.Path;
import java.util.ArrayList;
import java.util.List;

/** The document ../shared/DOC.md, cut into what its tests quote. */
final class Document {
    private static final Path PLACE = Path.of("..", "shared", "DOC.md");
    /** The words ahead of a paragraph under "Terms" that only name what it is about. */
    private static final List<String> PARAGRAPH_NAMES = List.of("Reach", "A year", "Lending");

    private Document() {
    }

    static String whole() throws IOException {
        return Files.readString(PLACE);
    }

    static List<String> headings() throws IOException {
        List<String> headings = new ArrayList<>();
        for (String line : whole().split("\n")) {
            if (line.startsWith("## ")) {
                headings.add(line.substring(3));
            }
        }
        return headings;
    }

    /** What stands between a heading, told by its first words, and the next one. */
    static String section(String heading) throws IOException {
        String document = whole();
        int start = document.indexOf("\n## " + heading);
        if (start < 0) {
            return "";
        }
        int text = document.indexOf("\n", start + 1);
        int end = document.indexOf("\n## ", text);
        return document.substring(text, end < 0 ? document.length() : end);
    }

    /** The lines of the public face between the class's braces. */
    static List<String> faceLines() throws IOException {
        List<String> lines = new ArrayList<>();
        for (String line : section("The public face").split("\n")) {
            if (line.startsWith("    ")) {
                lines.add(line.trim());
            }
        }
        return lines;
    }

    /** Under a promise: what the call does, its ranges, its answers and its exceptions, each one a row. */
    static List<String> rowsUnder(int promise) throws IOException {
        List<String> rows = new ArrayList<>();
        for (String line : section("Promise " + promise + ":").split("\n")) {
            int behindTheCall = line.startsWith("`") ? line.indexOf("`: ") : -1;
            if (behindTheCall > 0) {
                rows.add(line.substring(behindTheCall + 3));
            } else if (!line.isBlank()) {
                rows.add(line);
            }
        }
        return rows;
    }

    /** What stands between full stops and semicolons. */
    static List<String> clausesOf(String text) {
        List<String> clauses = new ArrayList<>();
        for (String clause : text.split("[.;]\\)?(\\s|$)|\n")) {
            String words = clause.startsWith("(") && !clause.contains(")") ? clause.substring(1) : clause;
            if (!words.isBlank() && !PARAGRAPH_NAMES.contains(words)) {
                clauses.add(words.trim());
            }
        }
        return clauses;
    }
}
