import java.io.IOException;
import java.lang.reflect.Constructor;
import java.lang.reflect.Field;
import java.lang.reflect.Method;
import java.lang.reflect.Modifier;
import java.nio.charset.StandardCharsets;
import java.nio.file.Files;
import java.nio.file.Path;
import java.util.ArrayList;
import java.util.List;
import java.util.Set;
import java.util.TreeSet;
import java.util.regex.Matcher;
import java.util.regex.Pattern;

/** The document's face, and what of LANGUAGE.md can be seen in the source's words and in the classes. */
public final class LanguageTest {
    private static final String SOURCE = "src/main/java/LadderTown.java";
    private static final String FACE = "ledge2 ledgeTold2 change3 deal1 seed1 ladder4 told2 as2 turns2 cut2 needs2 person2 "
        + "personTold2 set3 may2 move3 climb2 thieves1 nights1 way3 reached1 needed2 meeting0 above0 fewest2 help1 feed3 "
        + "trim1 text0 textTold2 why1 sheet3 mark3 pour1 nearest2 copy5 lay3 ask2 item2 rest2 tell1 check1 keep0 back0 count1";
    private static final String CONSTANTS = "BAD NO FULL NONE NOTHING KIND INDEX SIZE";
    private static final String[] BARRED = {"\\b(throw|throws|try|catch|synchronized|assert|float|double)\\b", "->", "::",
        "\\w+Exact\\b", "\\bstatic\\s*\\{", "@\\w", "\\bnew\\s+\\w+\\s*\\([^()]*\\)\\s*\\{", "\\b(Object|System\\.[^a]|var)\\b",
        "\\bpackage\\b", "\\bimport (?!java\\.util\\.Arrays;)"};

    public static void main(String[] args) throws IOException {
        String source = Files.readString(Path.of(SOURCE), StandardCharsets.ISO_8859_1);
        words(source);
        members();
        for (Class<?> inside : LadderTown.class.getDeclaredClasses()) inside(inside);
        int classes = 1 + LadderTown.class.getDeclaredClasses().length;
        Due.is("11 at most twelve classes, here " + classes, classes <= 12 ? 1 : 0, 1);
        Due.end("LanguageTest");
    }

    private static void words(String source) {
        for (int i = 0; i < source.length(); i++) {
            char c = source.charAt(i);
            Due.is("a sign that is not 1 to 127", c == '\n' || c >= ' ' && c < 127 ? 1 : 0, 1);
        }
        String code = source.replaceAll("(?s)/\\*.*?\\*/", "").replaceAll("//[^\n]*", "");
        for (String barred : BARRED) {
            Matcher m = Pattern.compile(barred).matcher(code);
            while (m.find()) Due.is("\"" + m.group() + "\" is barred", 1, 0);
        }
        String[] lines = source.split("\n");
        for (int i = 0; i < lines.length; i++) Due.is("line " + (i + 1) + " is long", lines[i].length() <= 125 ? 1 : 0, 1);
    }

    private static void members() {
        Class<?> face = LadderTown.class;
        Due.is("1 final", Modifier.isFinal(face.getModifiers()) ? 1 : 0, 1);
        Set<String> due = new TreeSet<>(List.of(FACE.split(" ")));
        Set<String> got = new TreeSet<>();
        for (Method m : face.getDeclaredMethods()) {
            if (Modifier.isPrivate(m.getModifiers())) continue;
            Due.is("1 public: " + m, Modifier.isPublic(m.getModifiers()) && m.getReturnType() == int.class ? 1 : 0, 1);
            got.add(m.getName() + m.getParameterCount());
        }
        Due.is("1 the face: " + got, got.equals(due) ? 1 : 0, 1);
        Constructor<?>[] made = face.getDeclaredConstructors();
        Due.is("1 constructors", made.length, 1);
        Due.is("1 its parameters", made[0].getParameterCount(), 0);
        List<String> constants = new ArrayList<>();
        for (Field f : face.getDeclaredFields()) if (Modifier.isPublic(f.getModifiers())) constants.add(f.getName());
        Due.is("1 constants: " + constants, String.join(" ", constants).equals(CONSTANTS) ? 1 : 0, 1);
        for (Field f : face.getDeclaredFields()) {
            boolean hidden = Modifier.isPrivate(f.getModifiers()) || constants.contains(f.getName());
            Due.is("1 not private: " + f, hidden ? 1 : 0, 1);
        }
        fields(face);
    }

    private static void inside(Class<?> inside) {
        Due.is("2 static: " + inside, Modifier.isStatic(inside.getModifiers()) ? 1 : 0, 1);
        fields(inside);
    }

    private static void fields(Class<?> owner) {
        int own = 0;
        for (Field f : owner.getDeclaredFields()) {
            boolean isStatic = Modifier.isStatic(f.getModifiers());
            if (!isStatic) own++;
            Due.is("5 final: " + f, isStatic && !Modifier.isFinal(f.getModifiers()) ? 1 : 0, 0);
        }
        Due.is("11 fields of " + owner + ": " + own, own <= 20 ? 1 : 0, 1);
    }
}
