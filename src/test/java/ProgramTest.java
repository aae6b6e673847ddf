import java.io.IOException;
import java.nio.file.Path;
import java.util.ArrayList;
import java.util.LinkedHashSet;
import java.util.List;
import java.util.Set;

/** What of LANGUAGE.md can be seen in the tree that the compiler reads; each row begins with its rule's number. */
public final class ProgramTest {
    private static final int DEEPEST = 8, MOST_PARAMETERS = 7, MOST_LINES = 60;
    private static final Set<String> LIBRARY = Set.of("String.length", "String.charAt", "String.indexOf", "Integer.bitCount",
        "Math.abs", "Math.max", "Math.min", "System.arraycopy", "Arrays.copyOf", "Arrays.fill", "Object.<init>");
    private static final Set<String> STATIC_TYPES = Set.of("int", "long", "boolean", "char", "java.lang.String", "int[]",
        "long[]", "char[]", "byte[]");

    public static void main(String[] args) throws IOException {
        Program program = Program.read(Path.of("src/main/java/LadderTown.java"));
        Due.is("1 calls of the face", program.publicMethods.size(), 45);
        names(program);
        for (String used : program.library) Due.holds("4 not of the library's list: " + used, LIBRARY.contains(used));
        Due.holds("4 no call of the library was seen", program.library.contains("System.arraycopy"));
        for (String field : program.staticFields) {
            Due.holds("5 a static field: " + field, STATIC_TYPES.contains(field.substring(0, field.indexOf(' '))));
        }
        for (String compared : program.comparedTexts) Due.holds("6 " + compared, false);
        for (String division : program.unguardedDivisions) Due.holds("7 the divisor is not looked at, " + division, false);
        recursion(program);
        sizes(program);
        Due.holds("12 objects are made in " + program.makers, program.makers.equals(Set.of("Reader.readText")));
        Due.end("ProgramTest");
    }

    private static void names(Program program) {
        Set<String> face = new LinkedHashSet<>();
        for (String name : program.publicMethods) face.add(name.substring(name.indexOf('.') + 1));
        for (String name : program.privateMethods) {
            Due.holds("1 " + name + " bears a public one's name", !face.contains(name.substring(name.indexOf('.') + 1)));
        }
    }

    private static void recursion(Program program) {
        List<String> longest = List.of();
        for (String name : program.calls.keySet()) {
            List<String> chain = longestFrom(program, name, new ArrayList<>());
            if (chain.size() > longest.size()) longest = chain;
            if (!reaches(program, name, name, new LinkedHashSet<>())) continue;
            Due.holds("8 " + name + " calls itself without a depth", program.parameters.get(name).contains("moves"));
        }
        Due.holds("8 what calls itself was not seen", reaches(program, "Ways.arrives", "Ways.arrives", new LinkedHashSet<>()));
        Due.holds("11 calls go too deep: " + longest, longest.size() <= DEEPEST);
        Due.holds("11 calls were not seen", longest.size() > 4);
    }

    /** The longest chain of calls in which no method stands twice. */
    private static List<String> longestFrom(Program program, String name, List<String> open) {
        open.add(name);
        List<String> longest = new ArrayList<>(open);
        for (String called : program.calls.getOrDefault(name, Set.of())) {
            if (open.contains(called)) continue;
            List<String> chain = longestFrom(program, called, open);
            if (chain.size() > longest.size()) longest = chain;
        }
        open.remove(open.size() - 1);
        return longest;
    }

    private static boolean reaches(Program program, String from, String to, Set<String> seen) {
        for (String called : program.calls.getOrDefault(from, Set.of())) {
            if (called.equals(to) || seen.add(called) && reaches(program, called, to, seen)) return true;
        }
        return false;
    }

    private static void sizes(Program program) {
        program.parameters.forEach((name, row) -> Due.holds("11 parameters of " + name, row.size() <= MOST_PARAMETERS));
        program.lines.forEach((name, lines) -> Due.holds("11 lines of " + name + ": " + lines, lines <= MOST_LINES));
    }
}
