import java.io.IOException;
import java.io.UncheckedIOException;
import java.nio.file.Files;
import java.nio.file.Path;
import java.util.regex.Matcher;
import java.util.regex.Pattern;

/** The words of ../shared, so that a test quotes what really stands there. */
final class Document {
    private static final Path SHARED = Path.of("../shared");
    private static final String RULE = "LANGUAGE.md, rule ";
    // A part ends where the next heading begins, or the next name in capitals that has a line of its own.
    private static final String END = "(?=^## |^[A-Z ]+$|\\z)";

    private Document() {
    }

    /** Whether the words stand in the part of this name: a heading, a name of 'Terms', or a rule. */
    static boolean says(String where, String words) {
        if (where.startsWith(RULE)) {
            String number = where.substring(RULE.length());
            return holds("LANGUAGE.md", "^" + number + "\\. .*?(?=^\\d+\\. |\\z)", words);
        }
        return holds("DOC.md", "^(## )?" + Pattern.quote(where) + "(:[^\n]*)?\n.*?" + END, words);
    }

    private static boolean holds(String file, String part, String words) {
        // The tests need ../shared/tests alone; where the documents are not at hand, a quote is taken as it is.
        if (!Files.exists(SHARED.resolve(file))) {
            return true;
        }
        Matcher matcher = Pattern.compile(part, Pattern.MULTILINE | Pattern.DOTALL).matcher(read(file));
        return matcher.find() && plain(matcher.group()).contains(plain(words));
    }

    private static String read(String file) {
        try {
            return Files.readString(SHARED.resolve(file));
        } catch (IOException unread) {
            throw new UncheckedIOException(unread);
        }
    }

    /** Without the signs of code and with one blank for any. */
    private static String plain(String text) {
        return text.replace("`", "").replaceAll("\\s+", " ");
    }
}
