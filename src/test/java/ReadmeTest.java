import java.io.IOException;
import java.lang.reflect.Method;
import java.nio.file.Files;
import java.nio.file.Path;
import java.util.List;
import java.util.regex.Matcher;
import java.util.regex.Pattern;

/** Makes the calls of the example in README.md, and compares their answers with those told behind them. */
public final class ReadmeTest {
    private static final String START = "PubQuizzes quiz = new PubQuizzes();";
    private static final Pattern CALL = Pattern.compile("quiz\\.(\\w+)\\((.*?)\\);\\s*// (-?\\d+).*");

    public static void main(String[] args) throws ReflectiveOperationException, IOException {
        PubQuizzes quiz = new PubQuizzes();
        int calls = 0;
        for (String line : example()) {
            Matcher call = CALL.matcher(line);
            if (call.matches()) {
                Checks.due("README.md: " + line, answer(quiz, call.group(1), call.group(2)), Long.parseLong(call.group(3)));
                calls++;
            } else {
                boolean readable = line.isBlank() || line.startsWith("//") || line.equals(START);
                Checks.due("README.md, a line that is no call: " + line, readable ? 1 : 0, 1);
            }
        }
        Checks.due("README.md has an example", calls > 0 ? 1 : 0, 1);
        Checks.end();
    }

    private static List<String> example() throws IOException {
        List<String> lines = Files.readAllLines(Path.of("README.md"));
        int first = lines.indexOf("```java") + 1;
        List<String> rest = lines.subList(first, lines.size());
        return rest.subList(0, Math.max(rest.indexOf("```"), 0));
    }

    private static long answer(PubQuizzes quiz, String name, String texts) throws ReflectiveOperationException {
        for (Method method : PubQuizzes.class.getMethods()) {
            if (method.getName().equals(name) && method.getDeclaringClass() == PubQuizzes.class) {
                return (int) method.invoke(quiz, arguments(method, texts));
            }
        }
        throw new NoSuchMethodException("README.md: " + name);
    }

    private static Object[] arguments(Method method, String texts) throws ReflectiveOperationException {
        String[] parts = texts.isEmpty() ? new String[0] : texts.split(", ");
        Object[] arguments = new Object[parts.length];
        for (int i = 0; i < parts.length; i++) {
            long number = number(parts[i]);
            boolean wide = i < method.getParameterCount() && method.getParameterTypes()[i] == long.class;
            if (wide) {
                arguments[i] = number;
            } else {
                arguments[i] = (int) number;
            }
        }
        return arguments;
    }

    /** A literal, or a constant of the class. */
    private static long number(String text) throws ReflectiveOperationException {
        if (text.startsWith("PubQuizzes.")) {
            return PubQuizzes.class.getField(text.substring("PubQuizzes.".length())).getInt(null);
        }
        return Long.decode(text.endsWith("L") ? text.substring(0, text.length() - 1) : text);
    }
}
