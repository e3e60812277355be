import java.io.IOException;
import java.nio.file.Files;
import java.nio.file.Path;

/** The document's own words, so that a test that quotes a sentence can't misquote it. */
final class Doc {
    private static final Path FILE = Path.of("../shared/DOC.md");
    private static final String WORDS = read();

    private Doc() {
    }

    private static String read() {
        try {
            return plain(Files.readString(FILE));
        } catch (IOException missing) {
            System.out.println("quotes are not compared, since there is no " + FILE);
            return "";
        }
    }

    private static String plain(String text) {
        return text.replaceAll("```text|```|`", "").replaceAll("\\s+", " ");
    }

    /** Where: "Promise 1" to "Promise 26", or "Terms 1" to "Terms 6" for the part behind ==== 1. .. */
    static boolean says(String where, String words) {
        return WORDS.isEmpty() || section(where).contains(plain(words));
    }

    private static String section(String where) {
        if (where.startsWith("Terms ")) {
            int part = Integer.parseInt(where.substring(6));
            return between("==== " + part + ".", part == 6 ? "## Promise 1:" : "==== " + (part + 1) + ".");
        }
        return between("## " + where + ":", " ## ");
    }

    private static String between(String first, String last) {
        int start = WORDS.indexOf(first);
        if (start < 0) {
            return "";
        }
        int end = WORDS.indexOf(last, start + first.length());
        return end < 0 ? WORDS.substring(start) : WORDS.substring(start, end);
    }
}
