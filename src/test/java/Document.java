import java.io.IOException;
import java.io.UncheckedIOException;
import java.nio.file.Files;
import java.nio.file.Path;

/** A section of the document, and which of its words have been quoted. Without the document, all words are in it. */
final class Document {
    private static final Path FILE = Path.of("../shared/DOC.md");

    private final String heading;
    private final String words;
    private final boolean[] isQuoted;

    private Document(String heading, String words) {
        this.heading = heading;
        this.words = words;
        this.isQuoted = new boolean[words.length()];
    }

    /** A section is a promise ("Promise 6: addRun"), another heading's text, or the paragraph "In doubt". */
    static Document section(String heading) {
        if (!Files.exists(FILE)) {
            return new Document(heading, "");
        }
        String text = read();
        int start = heading.equals("In doubt") ? text.indexOf("\nIn doubt. ") + "\nIn doubt. ".length()
            : text.indexOf("\n## " + heading + "\n") + heading.length() + "\n## \n".length();
        int end = text.indexOf("\n## ", start);
        if (start < heading.length() || end < 0) {
            throw new IllegalArgumentException("no section " + heading);
        }
        return new Document(heading, plain(text.substring(start, end)));
    }

    private static String read() {
        try {
            return Files.readString(FILE);
        } catch (IOException e) {
            throw new UncheckedIOException(e);
        }
    }

    private static String plain(String text) {
        return text.replaceAll("\\s+", " ").strip();
    }

    String heading() {
        return heading;
    }

    /** Marks the words wherever they stand, and tells whether they do. */
    boolean quote(String sentence) {
        if (words.isEmpty()) {
            return true;
        }
        int at = words.indexOf(sentence);
        boolean isThere = at >= 0;
        while (at >= 0) {
            java.util.Arrays.fill(isQuoted, at, at + sentence.length(), true);
            at = words.indexOf(sentence, at + 1);
        }
        return isThere;
    }

    /** The words that have not been quoted. The line with the signature is no sentence. */
    String unquoted() {
        StringBuilder rest = new StringBuilder();
        for (int i = 0; i < words.length(); i++) {
            rest.append(isQuoted[i] ? '|' : words.charAt(i));
        }
        String text = rest.toString().replaceFirst("^`[^`]*`", "");
        return text.replaceAll("[\\s.,;:|-]+", " ").strip();
    }
}
