import java.io.IOException;
import java.nio.file.Files;
import java.nio.file.Path;
import java.util.ArrayList;
import java.util.List;
import java.util.regex.Matcher;
import java.util.regex.Pattern;

/** The document, cut where its headings stand, so that a test can name the sentence that it holds the class to. */
final class Document {
    static final int PROMISES = 36, TERMS = 4;
    private final String asWritten;
    private final String text;
    private final boolean[] quoted;

    Document() throws IOException {
        asWritten = Files.readString(Path.of("../shared/DOC.md"));
        text = asWritten.replace("```text", " ").replace("```", " ").replaceAll("\\s+", " ");
        quoted = new boolean[text.length()];
    }

    /** What stands between two headings, as a first place and the one behind the last; nothing, if the first is missing. */
    private int[] between(String first, String second) {
        int from = text.indexOf(first);
        if (from < 0) {
            return new int[] {0, 0};
        }
        int to = text.indexOf(second, from + first.length());
        return new int[] {from + first.length(), to < 0 ? text.length() : to};
    }

    private int[] promise(int n) {
        return between("## Promise " + n + ": ", n < PROMISES ? "## Promise " + (n + 1) + ":" : "## Not promised");
    }

    /** Section 0 is what stands ahead of ROWS. */
    private int[] term(int section) {
        return between(section == 0 ? "## Terms" : "======== " + section + " ",
            section < TERMS ? "======== " + (section + 1) + " " : "Ahead of the calls");
    }

    boolean quotePromise(int n, String words) {
        return quote(words, promise(n));
    }

    boolean quoteTerm(int section, String words) {
        return quote(words, term(section));
    }

    /** Whether the words stand there; they count as quoted then. */
    private boolean quote(String words, int[] where) {
        int at = text.indexOf(words, where[0]);
        if (at < 0 || at + words.length() > where[1]) {
            return false;
        }
        for (int i = at; i < at + words.length(); i++) {
            quoted[i] = true;
        }
        return true;
    }

    /** What nobody has quoted of a promise, but for its name and its signature. */
    String leftOfPromise(int n) {
        int[] where = promise(n);
        int told = text.indexOf("`: ", where[0]);
        return left(told < 0 ? where[0] : told + 3, where[1]);
    }

    String leftOfTerm(int section) {
        int[] where = term(section);
        return left(where[0], where[1]);
    }

    private String left(int from, int to) {
        StringBuilder s = new StringBuilder();
        for (int i = from; i < to; i++) {
            s.append(quoted[i] ? '|' : text.charAt(i));
        }
        return s.toString().replaceAll("[^A-Za-z0-9]*\\|[^A-Za-z0-9]*", "|").replaceAll("\\|+", "|").strip();
    }

    /** The lines of the public face, without the class around them. */
    List<String> face() {
        Matcher block = Pattern.compile("(?s)```java\\s+public final class LoveParts \\{(.*?)\\}\\s*```").matcher(asWritten);
        List<String> lines = new ArrayList<>();
        if (block.find()) {
            for (String line : block.group(1).strip().split("\n")) {
                lines.add(line.strip());
            }
        }
        return lines;
    }

    /** As it stands under the heading of a promise. */
    String signature(int n) {
        int[] where = promise(n);
        Matcher m = Pattern.compile("`([^`]*)`").matcher(text.substring(where[0], where[1]));
        return m.find() ? m.group(1) : "";
    }

    /** Each line 'Ahead of the calls .. the interface says': the calls, and what it says. */
    List<String[]> groups() {
        List<String[]> groups = new ArrayList<>();
        Matcher m = Pattern.compile("Ahead of the calls (.*?) the interface says: (---- [a-z ]+)\\.").matcher(text);
        while (m.find()) {
            groups.add(new String[] {m.group(1).replaceAll("[`,]+", " ").strip(), m.group(2)});
        }
        return groups;
    }
}
