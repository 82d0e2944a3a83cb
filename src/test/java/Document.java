import java.io.IOException;
import java.nio.file.Files;
import java.nio.file.Path;

/** The document, cut where its headings stand, so that a test can name the sentence that it holds the class to. */
final class Document {
    static final int PROMISES = 36, TERMS = 4;
    private final String text;

    Document() throws IOException {
        text = plain(Files.readString(Path.of("../shared/DOC.md")));
    }

    private static String plain(String s) {
        return s.replace("```text", " ").replace("```", " ").replaceAll("\\s+", " ");
    }

    /** What stands between two headings; the whole rest, if the second one is missing. */
    private String between(String first, String second) {
        int from = text.indexOf(first);
        if (from < 0) {
            return "";
        }
        int to = text.indexOf(second, from + first.length());
        return text.substring(from, to < 0 ? text.length() : to);
    }

    String promise(int n) {
        return between("## Promise " + n + ":", n < PROMISES ? "## Promise " + (n + 1) + ":" : "## Not promised");
    }

    /** Section 0 is what stands ahead of ROWS. */
    String term(int section) {
        return between(section == 0 ? "## Terms" : "======== " + section + " ",
            section < TERMS ? "======== " + (section + 1) + " " : "Ahead of the calls");
    }
}
