import java.io.IOException;
import java.io.UncheckedIOException;
import java.nio.file.Files;
import java.nio.file.Path;
import java.util.List;

/** The document, so that a test can show that the sentence it holds stands there, word by word. */
final class Document {
    private static final Path PLACE = Path.of("..", "shared", "DOC.md");
    private static final List<String> LINES = read();

    private Document() {
    }

    /** Whether a line under this heading, down to the next one, has these words. */
    static boolean says(String heading, String words) {
        boolean under = false;
        for (String line : LINES) {
            if (line.startsWith("#")) {
                under = isHeading(line, heading);
            } else if (under && line.contains(words)) {
                return true;
            }
        }
        return false;
    }

    /** "Promise 2" is the heading "## Promise 2: row", but not "## Promise 20: way". */
    private static boolean isHeading(String line, String heading) {
        String name = line.replaceFirst("^#+ ", "");
        return name.equals(heading) || name.startsWith(heading + ":");
    }

    private static List<String> read() {
        try {
            return Files.readAllLines(PLACE);
        } catch (IOException e) {
            throw new UncheckedIOException(e);
        }
    }
}
