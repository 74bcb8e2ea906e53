import java.io.IOException;
import java.lang.reflect.Field;
import java.lang.reflect.Method;
import java.lang.reflect.Modifier;
import java.nio.file.Files;
import java.nio.file.Path;
import java.util.List;
import java.util.Set;
import java.util.regex.Matcher;
import java.util.regex.Pattern;

/**
 * The rules of LANGUAGE.md as far as the words of the source and its members show them.
 * It is narrower than they are: what the rules leave and the class does without is refused too.
 */
public final class FormTest {
    private static final Set<String> LIBRARY = Set.of("Math.floorDiv", "Math.max", "Math.min");
    private static final Set<Class<?>> CONSTANTS = Set.of(int.class, long.class, boolean.class, char.class, String.class);
    private static final List<String> REFUSED_WORDS = List.of("package", "import", "float", "double", "record", "enum",
        "interface", "try", "catch", "finally", "synchronized", "assert");
    private static final String WRITTEN_THROW =
        "\\bthrow new (ArithmeticException|IllegalArgumentException)\\(\"[^\"]*\"\\);";
    private static final int LONGEST_METHOD = 60;

    public static void main(String[] args) throws IOException {
        String source = Files.readString(Path.of("src/main/java/FixedNumbers.java"));
        String code = source.replaceAll("(?s)/\\*.*?\\*/", "").replaceAll("//.*", "");
        String words = code.replaceAll("\"[^\"]*\"", "\"\"");
        oneClass(words);
        noRefusedWord(words);
        libraryIsListed(words);
        membersKeepToTheRules();
        throwsAreWritten(code);
        methodsAreShort(code);
        Due.end();
    }

    private static void oneClass(String words) {
        Due.sentence("LANGUAGE.md 1, 2: one public class, no lambda, no method reference");
        Due.that(count(words, "\\bclass\\b") == 1, "one class");
        Due.that(FixedNumbers.class.getPackageName().isEmpty(), "no package");
        Due.that(!words.contains("->") && !words.contains("::"), "no lambda and no method reference");
    }

    private static void noRefusedWord(String words) {
        Due.sentence("LANGUAGE.md 2, 3, 5, 6: words that the class does without");
        for (String word : REFUSED_WORDS) {
            Due.that(count(words, "\\b" + word + "\\b") == 0, "no " + word);
        }
        Due.that(count(words, "\\bstatic\\s*\\{") == 0, "no static initialiser block");
    }

    private static void libraryIsListed(String words) {
        Due.sentence("LANGUAGE.md 4, 12, 13: only the library that is listed, and no object made");
        Matcher use = Pattern.compile("\\b[A-Za-z_]\\w*\\s*\\.\\s*\\w+").matcher(words);
        while (use.find()) {
            Due.that(LIBRARY.contains(use.group()), "listed: " + use.group());
        }
        Due.that(count(words, "\\bnew\\b") == count(words, "\\bthrow new\\b"), "new makes exceptions alone");
    }

    private static void membersKeepToTheRules() {
        Due.sentence("LANGUAGE.md 5, 11: constants are final numbers, methods take at most seven parameters");
        for (Field field : FixedNumbers.class.getDeclaredFields()) {
            Due.that(Modifier.isStatic(field.getModifiers()) && Modifier.isFinal(field.getModifiers())
                && CONSTANTS.contains(field.getType()), "a constant: " + field);
        }
        for (Method method : FixedNumbers.class.getDeclaredMethods()) {
            Due.that(method.getParameterCount() <= 7, "seven parameters at most: " + method);
        }
    }

    private static void throwsAreWritten(String code) {
        Due.sentence("LANGUAGE.md 6: throw new E(\"a written text\")");
        int found = count(code, WRITTEN_THROW);
        Due.that(found == count(code, "\\bthrow\\b"), "every throw is written so, not only " + found);
    }

    /** A member's end is the only brace that is four spaces in. */
    private static void methodsAreShort(String code) {
        Due.sentence("LANGUAGE.md 11: Methods stay short (some sixty lines)");
        int lines = 0;
        for (String line : code.split("\n")) {
            lines = line.equals("    }") ? 0 : lines + 1;
            Due.that(lines <= LONGEST_METHOD, "no more than sixty lines up to " + line);
        }
    }

    private static int count(String text, String pattern) {
        return (int) Pattern.compile(pattern).matcher(text).results().count();
    }
}
