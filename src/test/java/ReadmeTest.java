import java.io.IOException;
import java.lang.reflect.Method;
import java.lang.reflect.Modifier;
import java.nio.charset.StandardCharsets;
import java.nio.file.Files;
import java.nio.file.Path;
import java.util.List;
import java.util.regex.Matcher;
import java.util.regex.Pattern;
import java.util.stream.Stream;

/** README.md names every call and every test, and the calls of its examples answer as they say. */
public final class ReadmeTest {
    private static final Pattern CALL = Pattern.compile("town\\.(\\w+)\\(([^)]*)\\); +// (-?\\d+|[A-Z]+)(:.*)?");

    public static void main(String[] args) throws IOException, ReflectiveOperationException {
        String page = Files.readString(Path.of("README.md"), StandardCharsets.UTF_8);
        names(page);
        examples(page);
        Due.end("ReadmeTest");
    }

    private static void names(String page) throws IOException {
        for (Method method : LadderTown.class.getDeclaredMethods()) {
            if (!Modifier.isPublic(method.getModifiers())) continue;
            Matcher row = Pattern.compile("\\| `" + method.getName() + "\\(([^)]*)\\)` \\|").matcher(page);
            boolean named = row.find();
            Due.holds("no row for " + method.getName(), named);
            if (named) Due.is("arguments of " + method.getName(), arguments(row.group(1)).length, method.getParameterCount());
        }
        try (Stream<Path> files = Files.list(Path.of("src/test/java"))) {
            for (Path file : files.filter(f -> f.toString().endsWith("Test.java")).toList()) {
                String name = file.getFileName().toString().replace(".java", "");
                Due.holds("no row for " + name, page.contains("`" + name + "`"));
            }
        }
    }

    private static void examples(String page) throws ReflectiveOperationException {
        LadderTown town = null;
        int calls = 0;
        for (String line : javaLines(page)) {
            if (line.equals("LadderTown town = new LadderTown();")) {
                town = new LadderTown();
                continue;
            }
            Matcher call = CALL.matcher(line);
            boolean readable = call.matches() && town != null;
            Due.holds("this line cannot be tried: " + line, readable);
            if (!readable) continue;
            Due.is(line, answer(town, call.group(1), arguments(call.group(2))), number(call.group(3)));
            calls++;
        }
        Due.holds("only " + calls + " calls in examples", calls > 50);
    }

    private static List<String> javaLines(String page) {
        StringBuilder lines = new StringBuilder();
        Matcher block = Pattern.compile("(?s)```java\n(.*?)```").matcher(page);
        while (block.find()) lines.append(block.group(1));
        return lines.toString().lines().toList();
    }

    private static String[] arguments(String row) {
        return row.isEmpty() ? new String[0] : row.split(", ");
    }

    private static int answer(LadderTown town, String name, String[] arguments) throws ReflectiveOperationException {
        Class<?>[] types = new Class<?>[arguments.length];
        Object[] values = new Object[arguments.length];
        for (int i = 0; i < arguments.length; i++) {
            types[i] = int.class;
            values[i] = Integer.decode(arguments[i]);
        }
        return (int) LadderTown.class.getMethod(name, types).invoke(town, values);
    }

    private static int number(String answer) throws ReflectiveOperationException {
        boolean named = Character.isUpperCase(answer.charAt(0));
        return named ? LadderTown.class.getField(answer).getInt(null) : Integer.parseInt(answer);
    }
}
