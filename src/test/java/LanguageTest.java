import java.lang.reflect.Field;
import java.lang.reflect.Method;
import java.lang.reflect.Modifier;
import java.nio.file.Files;
import java.nio.file.Path;
import java.util.regex.Matcher;
import java.util.regex.Pattern;

/** Rules of LANGUAGE.md that can be seen from the program's words alone. */
public final class LanguageTest {
    /** A rule, and what must not stand in the program because of it. */
    private static final String[][] RULED_OUT = {
        {"2: no lambda", "->"},
        {"2: no method reference", "::"},
        {"3: no Math on floats, no library floats", "\\b(Float|Double|StrictMath|Math)\\s*\\."},
        {"4: no import", "\\bimport\\b"},
        {"4: no package", "\\bpackage\\b"},
        {"5: no static initialiser", "\\bstatic\\s*\\{"},
        {"5: static fields are final", "\\bstatic\\s+(int|long|boolean|char|float|double|String)\\s+\\w+\\s*[=;]"},
        {"5: no constant of floats", "\\bstatic\\s+final\\s+(float|double)\\b"},
        {"6: this program throws and catches nothing", "\\b(throw|throws|try|catch|finally)\\b"},
        {"6: no equals, hashCode or toString", "\\b(equals|hashCode|toString)\\s*\\("},
        {"6: no synchronized, no assert", "\\b(synchronized|assert)\\b"},
        {"13: no clock, no randomness, no system", "\\b(Random|System|Thread|Runtime)\\b"},
        {"signs are 1 to 127", "[^\\x01-\\x7f]"},
    };

    public static void main(String[] args) throws Exception {
        String text = Files.readString(Path.of("src/main/java/TagWindows.java"));
        String code = text.replaceAll("(?s)/\\*.*?\\*/", "").replaceAll("//[^\\n]*", "");
        for (String[] rule : RULED_OUT) {
            Matcher m = Pattern.compile(rule[1]).matcher(code);
            Check.due("rule " + rule[0], m.find() ? m.group() : "", "");
        }
        objectsAreMadeWithTheObject(code);
        sizes(TagWindows.class);
        for (Class<?> inside : TagWindows.class.getDeclaredClasses()) {
            sizes(inside);
        }
        Check.due("rule 11: some twelve classes", TagWindows.class.getDeclaredClasses().length < 12 ? 1 : 0, 1);
        Check.end();
    }

    /** All calls live in one room: rows are made in constructors, and no call makes an object. */
    private static void objectsAreMadeWithTheObject(String code) {
        for (String line : code.split("\n")) {
            if (line.contains("new ")) {
                boolean isField = line.matches(" +(private )?final \\w+(\\[\\])? \\w+ = new .*");
                boolean isRow = line.matches(" +\\w+\\[i\\] = new \\w+\\(\\);");
                Check.due("made in a constructor: " + line.trim(), isField || isRow ? 1 : 0, 1);
            }
        }
    }

    /** Rule 11: "at most seven parameters", "some twenty fields beside its constants". */
    private static void sizes(Class<?> c) {
        for (Method m : c.getDeclaredMethods()) {
            Check.due("rule 11: parameters of " + m, m.getParameterCount() <= 7 ? 1 : 0, 1);
        }
        int fields = 0;
        for (Field f : c.getDeclaredFields()) {
            fields += Modifier.isStatic(f.getModifiers()) ? 0 : 1;
        }
        Check.due("rule 11: fields of " + c, fields <= 20 ? 1 : 0, 1);
    }
}
