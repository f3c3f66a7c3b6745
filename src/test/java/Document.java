import java.io.IOException;
import java.io.UncheckedIOException;
import java.nio.file.Files;
import java.nio.file.Path;

/** The document beside the checkout, so that no test names a sentence that it does not hold. */
final class Document {
    private static final Path FILE = Path.of("../shared/DOC.md");

    private final String text;

    Document() {
        try {
            text = Files.exists(FILE) ? Files.readString(FILE) : null;
        } catch (IOException e) {
            throw new UncheckedIOException(e);
        }
    }

    boolean isThere() {
        return text != null;
    }

    /** Whether the words stand under the heading and above the next one, however the lines are broken. */
    boolean tells(String heading, String words) {
        boolean under = false;
        StringBuilder section = new StringBuilder();
        for (String line : text.split("\n")) {
            if (line.startsWith("#")) {
                under = line.replaceFirst("^#+ ", "").strip().equals(heading);
            } else if (under) {
                section.append(line).append(' ');
            }
        }
        return oneSpaced(section.toString()).contains(oneSpaced(words));
    }

    private static String oneSpaced(String words) {
        return words.replaceAll("\\s+", " ").strip();
    }
}
