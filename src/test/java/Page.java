import java.io.IOException;
import java.nio.file.Files;
import java.nio.file.Path;

/**
 * The document, read once from its first line to its last: the tests quote it piece by piece in
 * its own order, and a piece that is left out, or that does not stand there, is wrong.
 */
final class Page {
    private static final Path DOCUMENT = Path.of("../shared/DOC.md");

    private static String document = "";
    private static int read = 0;

    private Page() {
    }

    static void open() throws IOException {
        document = Files.readString(DOCUMENT);
        read = 0;
    }

    /** The next piece of the document is this one; only signs that are no letters may be between. */
    static void quote(String words) {
        int start = document.indexOf(words, read);
        if (start < 0) {
            Due.note(false, "the document does not say next: " + words);
            return;
        }
        nothingBetween(start);
        read = start + words.length();
    }

    /** A heading, and the signature of a method behind it, which LanguageTest compares. */
    static void heading(String words) {
        quote(words);
        int next = read;
        while (next < document.length() && Character.isWhitespace(document.charAt(next))) {
            next++;
        }
        int end = document.indexOf("`:", next);
        if (words.startsWith("## Promise") && document.startsWith("`", next) && end >= 0) {
            read = end + 2;
        }
    }

    /** Leaves out everything up to these words. */
    static void skipTo(String words) {
        int start = document.indexOf(words, read);
        Due.isTrue("the document says behind this: " + words, start >= 0);
        read = Math.max(start, read);
    }

    static void close() {
        nothingBetween(document.length());
    }

    private static void nothingBetween(int end) {
        String between = document.substring(read, end);
        String begun = between.substring(0, Math.min(200, between.length())).trim();
        Due.isTrue("no test quotes: " + begun, between.chars().noneMatch(Character::isLetterOrDigit));
    }
}
