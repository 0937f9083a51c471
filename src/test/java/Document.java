import java.io.IOException;
import java.nio.file.Files;
import java.nio.file.Path;
import java.util.ArrayList;
import java.util.Arrays;
import java.util.List;

/** The document's words, section by section, and which of them a test has quoted. */
final class Document {
    private static final Path PLACE = Path.of("../shared/DOC.md");

    private final String words;
    private final boolean[] quoted;
    private int from;
    private int behind;

    private Document(String words) {
        this.words = words;
        this.quoted = new boolean[words.length()];
    }

    static boolean isThere() {
        return Files.isReadable(PLACE);
    }

    static Document read() throws IOException {
        return new Document("\n" + Files.readString(PLACE) + "\n#");
    }

    /** The quotes that follow are looked for between this heading and the next one; false if there is none. */
    boolean section(String heading) {
        int at = words.indexOf("\n" + heading + "\n");
        from = at < 0 ? 0 : at + heading.length() + 2;
        behind = at < 0 ? 0 : words.indexOf("\n#", from);
        return at >= 0;
    }

    /** Quotes words of the section, where they were not quoted yet if it has them twice; false if it has not. */
    boolean quote(String quote) {
        int at = find(quote, from);
        int fresh = at;
        while (fresh >= 0 && quoted[fresh]) {
            fresh = find(quote, fresh + 1);
        }
        if (fresh >= 0) {
            at = fresh;
        }
        if (at >= 0) {
            Arrays.fill(quoted, at, at + quote.length(), true);
        }
        return at >= 0;
    }

    private int find(String quote, int first) {
        int at = words.indexOf(quote, first);
        return at + quote.length() <= behind ? at : -1;
    }

    /** The lines between two headings of which a word was not quoted; the headings between are left out. */
    List<String> unquoted(String firstHeading, String headingBehind) {
        List<String> lines = new ArrayList<>();
        int end = words.indexOf("\n" + headingBehind + "\n");
        int line = words.indexOf("\n" + firstHeading + "\n") + 1;
        while (line > 0 && line < end) {
            int lineEnd = words.indexOf('\n', line);
            if (words.charAt(line) != '#' && hasUnquoted(line, lineEnd)) {
                lines.add(marked(line, lineEnd));
            }
            line = lineEnd + 1;
        }
        return lines;
    }

    private boolean hasUnquoted(int first, int last) {
        for (int i = first; i < last; i++) {
            if (!quoted[i] && Character.isLetterOrDigit(words.charAt(i))) {
                return true;
            }
        }
        return false;
    }

    /** A line with dots for what was quoted. */
    private String marked(int first, int last) {
        StringBuilder line = new StringBuilder();
        for (int i = first; i < last; i++) {
            if (!quoted[i]) {
                line.append(words.charAt(i));
            } else if (i == first || !quoted[i - 1]) {
                line.append("..");
            }
        }
        return line.toString();
    }
}
