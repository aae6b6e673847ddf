import java.io.IOException;
import java.nio.charset.StandardCharsets;
import java.nio.file.Files;
import java.nio.file.Path;

/** Tests that are named by the words of the document that they hold, and by where these stand. */
final class Sentence {
    private static final Path DOC = Path.of("../shared/DOC.md");
    private static final String DOCUMENT = read();

    private static int held = 0;

    private Sentence() {
    }

    /** where: "What it is", "The public face", "Terms", "Terms 1" .. "Terms 5", "Promise 1" .. "Promise 46". */
    static void holds(String where, String words, Runnable test) {
        Due.under("DOC.md, " + where + ", \"" + words + "\"");
        if (!DOCUMENT.isEmpty()) Due.holds("the document has no such words there", part(where).contains(words));
        int before = Due.asked();
        test.run();
        Due.holds("its test asks nothing", Due.asked() > before);
        Due.under("");
        held++;
    }

    static void end(String test) {
        Due.end(test + ", " + held + " sentences" + (DOCUMENT.isEmpty() ? " (their words unseen: no " + DOC + ")" : ""));
    }

    /** What the document says there, in one line; nothing without the document. */
    static String part(String where) {
        String from = where.matches("Terms \\d") ? "======== " + where.substring(6) + " "
            : where.startsWith("Promise ") ? "## " + where + ": " : "## " + where + " ";
        int start = DOCUMENT.indexOf(from);
        if (start < 0) return "";
        start += from.length();
        int end = DOCUMENT.length();
        for (String next : new String[] {" ## ", " ======== "}) {
            int at = DOCUMENT.indexOf(next, start);
            if (at >= 0 && at < end) end = at;
        }
        return DOCUMENT.substring(start, end);
    }

    private static String read() {
        try {
            return Files.isReadable(DOC) ? Files.readString(DOC, StandardCharsets.UTF_8).replaceAll("\\s+", " ") : "";
        } catch (IOException e) {
            return "";
        }
    }
}
