import java.io.IOException;
import java.nio.file.Files;
import java.nio.file.Path;
import java.util.HashMap;
import java.util.Map;

/**
 * The document's sentences by their places, and which of them a test holds: a quote that does not
 * stand in the document, and a sentence that no test quotes, are told.
 */
final class Document {
    private static final Path FILE = Path.of("../shared/DOC.md");

    private final Map<String, StringBuilder> texts = new HashMap<>();

    Document() {
        String place = "";
        try {
            for (String line : Files.readAllLines(FILE)) {
                if (isHeading(line)) {
                    place = placeOf(line);
                    texts.put(place, new StringBuilder());
                } else if (texts.containsKey(place)) {
                    texts.get(place).append(withoutSignature(line)).append('\n');
                }
            }
        } catch (IOException e) {
            System.out.println(FILE + " can't be read: " + e);
        }
    }

    /** The place "Undo, the snapshot" has no mark of a heading. */
    private static boolean isHeading(String line) {
        return line.startsWith("#") || line.equals("Undo, the snapshot");
    }

    private static String placeOf(String heading) {
        String title = heading.replaceFirst("^#+ *", "");
        return title.replaceFirst("^(Promise \\d+):.*", "$1");
    }

    /** FaceTest holds the signatures. */
    private static String withoutSignature(String line) {
        return line.replaceFirst("^`[^`]*`: ", "").replaceFirst("^- ", "");
    }

    /** Takes a quote out of what is left of its place; false if it does not stand there. */
    boolean take(String place, String quote) {
        StringBuilder left = texts.get(place);
        int at = left == null ? -1 : left.indexOf(quote);
        if (at < 0) {
            return false;
        }
        left.replace(at, at + quote.length(), "\n");
        return true;
    }

    /** What no test has quoted of a place, but for the signs between sentences. */
    String left(String place) {
        StringBuilder left = texts.get(place);
        return left == null ? "no such place" : left.toString().replaceAll("[\\s.,;:]+", " ").trim();
    }
}
