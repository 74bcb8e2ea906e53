import java.io.IOException;
import java.lang.reflect.InvocationTargetException;
import java.lang.reflect.Method;
import java.nio.file.Files;
import java.nio.file.Path;
import java.util.List;
import java.util.Set;
import java.util.TreeSet;
import java.util.regex.Matcher;
import java.util.regex.Pattern;
import java.util.stream.Collectors;
import java.util.stream.Stream;

/** Each example of README.md: the call of its line answers what its comment says, up to a colon. */
public final class ReadmeTest {
    private static final String MADE = "FixedNumbers numbers = new FixedNumbers();";
    private static final Pattern EXAMPLE = Pattern.compile("numbers\\.(\\w+)\\(([^()]*)\\); *// ([^:]+)(:.*)?");
    private static final Pattern CALL = Pattern.compile("numbers\\.\\w+\\(");
    private static final Set<String> SHOWN = new TreeSet<>();
    private static FixedNumbers numbers = null;

    public static void main(String[] args) throws IOException, IllegalAccessException {
        List<String> readme = Files.readAllLines(Path.of("README.md"));
        examplesHold(readme);
        everyMethodIsShown();
        everyTestIsNamed(String.join("\n", readme));
        Due.end();
    }

    private static void examplesHold(List<String> readme) throws IllegalAccessException {
        Due.sentence("README.md: each example");
        boolean inCode = false;
        for (String line : readme) {
            if (line.startsWith("```")) {
                inCode = line.equals("```java");
            } else if (inCode && !line.isBlank()) {
                codeLineHolds(line.strip());
            } else {
                // An answer told there would be an example that nothing looks at.
                Due.that(!CALL.matcher(line).find(), "a call stands in a java block: " + line);
            }
        }
    }

    private static void codeLineHolds(String line) throws IllegalAccessException {
        Matcher example = EXAMPLE.matcher(line);
        if (line.equals(MADE)) {
            numbers = new FixedNumbers();
        } else if (example.matches() && numbers != null) {
            String answer = answer(example.group(1), example.group(2));
            Due.that(answer.equals(example.group(3)), line + " (answered " + answer + ")");
            SHOWN.add(example.group(1) + (answer.startsWith("throws ") ? " " + answer : ""));
        } else {
            Due.that(false, "an example, or the line that makes the object: " + line);
        }
    }

    private static String answer(String name, String literals) throws IllegalAccessException {
        for (Method method : FixedNumbers.class.getDeclaredMethods()) {
            if (method.getName().equals(name)) {
                try {
                    return method.invoke(numbers, arguments(method.getParameterTypes(), literals.split(", "))).toString();
                } catch (InvocationTargetException thrown) {
                    return "throws " + thrown.getCause().getClass().getSimpleName();
                } catch (IllegalArgumentException wrong) {
                    return "not at all: " + wrong.getMessage();
                }
            }
        }
        return "not at all: no such method";
    }

    private static Object[] arguments(Class<?>[] types, String[] literals) {
        if (types.length != literals.length) {
            throw new IllegalArgumentException("it takes " + types.length + " arguments");
        }
        Object[] found = new Object[types.length];
        for (int i = 0; i < types.length; i++) {
            found[i] = literal(types[i], literals[i]);
        }
        return found;
    }

    /** As javac takes them: an L makes a long, which no int parameter takes, and nothing else passes an int. */
    private static Object literal(Class<?> type, String text) {
        if (type == long.class && text.endsWith("L")) {
            return Long.valueOf(text.substring(0, text.length() - 1));
        }
        int value = Integer.parseInt(text);
        return type == long.class ? (Object) Long.valueOf(value) : (Object) Integer.valueOf(value);
    }

    private static void everyMethodIsShown() {
        Due.sentence("README.md: what each method takes, answers and refuses");
        for (Method method : FixedNumbers.class.getMethods()) {
            if (method.getDeclaringClass() == FixedNumbers.class) {
                String name = method.getName();
                Due.that(SHOWN.contains(name), "an example of " + name);
                for (Class<?> refusal : method.getExceptionTypes()) {
                    String shown = name + " throws " + refusal.getSimpleName();
                    Due.that(SHOWN.contains(shown), "an example of " + shown);
                }
            }
        }
    }

    private static void everyTestIsNamed(String readme) throws IOException {
        Due.sentence("README.md: the tests");
        try (Stream<Path> files = Files.list(Path.of("src/test/java"))) {
            for (Path file : files.collect(Collectors.toList())) {
                String name = file.getFileName().toString().replace(".java", "");
                Due.that(readme.contains("`" + name), "README.md names " + name);
            }
        }
    }
}
