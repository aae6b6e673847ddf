import java.io.IOException;
import java.nio.charset.StandardCharsets;
import java.nio.file.Files;
import java.nio.file.Path;
import java.util.ArrayList;
import java.util.List;
import java.util.regex.Matcher;
import java.util.regex.Pattern;
import java.util.stream.Stream;

/** Every sentence of the terms and of the promises is named by a test: no words of theirs are left over. */
public final class EverySentenceTest {
    private static final Path TESTS = Path.of("src/test/java");
    private static final Pattern NAMED = Pattern.compile("Sentence\\.holds\\((PART|\"[^\"]*\"),\\s*((?:\"[^\"]*\"\\s*\\+?\\s*)+),");
    private static final Pattern PART = Pattern.compile("PART = \"([^\"]*)\"");
    private static final Pattern QUOTED = Pattern.compile("\"([^\"]*)\"");
    // A promise's heading and signature, the names of groups of calls, and words that only lead to what is asked.
    private static final String[] LEADS = {"^.*?`: ", "Ahead of the calls .*", "```text", "Of an? [A-Z]+:", "Of one:",
        "How many:", "The numbers that wait", "HELP:", "\\bfrom\\b"};

    private record Name(String where, String words) { }

    public static void main(String[] args) throws IOException {
        List<Name> names = names();
        Due.holds("only " + names.size() + " sentences are named", names.size() > 200);
        leftOver(names, "Terms");
        for (int part = 1; part <= 5; part++) leftOver(names, "Terms " + part);
        for (int promise = 1; promise <= 46; promise++) leftOver(names, "Promise " + promise);
        Due.end("EverySentenceTest, " + names.size() + " names");
    }

    private static List<Name> names() throws IOException {
        List<Name> names = new ArrayList<>();
        try (Stream<Path> files = Files.list(TESTS)) {
            for (Path file : files.filter(f -> f.toString().endsWith("SentencesTest.java")).toList()) {
                String source = Files.readString(file, StandardCharsets.UTF_8);
                Matcher part = PART.matcher(source);
                String where = part.find() ? part.group(1) : "";
                Matcher named = NAMED.matcher(source);
                while (named.find()) {
                    names.add(new Name(named.group(1).equals("PART") ? where : unquoted(named.group(1)), unquoted(named.group(2))));
                }
            }
        }
        return names;
    }

    private static String unquoted(String parts) {
        StringBuilder words = new StringBuilder();
        Matcher m = QUOTED.matcher(parts);
        while (m.find()) words.append(m.group(1));
        return words.toString();
    }

    private static void leftOver(List<Name> names, String where) {
        String part = Sentence.part(where);
        char[] left = part.toCharArray();
        int tests = 0;
        for (Name name : names) {
            if (!name.where.equals(where)) continue;
            tests++;
            int at = part.indexOf(name.words);
            for (int i = 0; at >= 0 && i < name.words.length(); i++) left[at + i] = '.';
        }
        Due.holds(where + " has no test", tests > 0);
        String rest = new String(left);
        for (String lead : LEADS) rest = rest.replaceFirst(lead, "");
        Due.holds("no test names these words of " + where + ": " + rest, !rest.matches(".*[A-Za-z].*"));
    }
}
