import java.io.IOException;
import java.nio.file.Files;
import java.nio.file.Path;

/** The document itself, so that a test can name the sentence that it holds the class to. */
final class Doc {
    private static final String WORDS = read(Path.of("..", "shared", "DOC.md"));

    private Doc() {
    }

    /** Empty where the document is not there: the answers are held to their dues all the same. */
    private static String read(Path path) {
        try {
            return inOneLine(Files.readString(path));
        } catch (IOException e) {
            System.out.println("no quotation is looked up, for the document cannot be read: " + e);
            return "";
        }
    }

    private static String inOneLine(String words) {
        return words.replaceAll("\\s+", " ").trim();
    }

    static boolean says(String words) {
        return WORDS.isEmpty() || WORDS.contains(inOneLine(words));
    }
}
