import java.io.IOException;
import java.lang.reflect.InvocationTargetException;
import java.lang.reflect.Method;
import java.nio.file.Files;
import java.nio.file.Path;
import java.util.regex.Matcher;
import java.util.regex.Pattern;

/**
 * Makes the calls of README.md's java blocks in their order. What follows // begins with the answer that is due,
 * or with "throws" and the exception; a call without either must answer nothing.
 */
public final class ReadmeTest {
    private static final Pattern NEW = Pattern.compile("(CheckedMachine )?machine = new CheckedMachine\\(\\);");
    private static final Pattern CALL = Pattern.compile("machine\\.(\\w+)\\(([^()]*)\\);(\\s*// (.*))?");
    private static final Pattern ANSWER = Pattern.compile("(-?\\d+)\\b.*");
    private static final Pattern THROWS = Pattern.compile("throws (\\w+).*");

    private static CheckedMachine machine;
    private static int calls = 0;

    public static void main(String[] args) throws IOException {
        boolean inBlock = false;
        for (String line : Files.readAllLines(Path.of("README.md"))) {
            if (line.startsWith("```")) {
                inBlock = line.equals("```java");
            } else if (inBlock && !line.isBlank()) {
                follow(line.strip());
            }
        }
        Expect.due("calls found", calls > 20 ? 1 : 0, 1);
        Expect.end();
    }

    private static void follow(String line) {
        Matcher call = CALL.matcher(line);
        if (NEW.matcher(line).matches()) {
            machine = new CheckedMachine();
        } else if (call.matches()) {
            calls++;
            String words = call.group(4) == null ? "" : call.group(4);
            Expect.due(line, made(call.group(1), call.group(2)), due(words));
        } else {
            Expect.due(line, "not understood", "a call");
        }
    }

    private static String due(String words) {
        Matcher thrown = THROWS.matcher(words);
        Matcher answer = ANSWER.matcher(words);
        return thrown.matches() ? thrown.group(1) : answer.matches() ? answer.group(1) : "null";
    }

    private static String made(String name, String arguments) {
        String[] texts = arguments.isEmpty() ? new String[0] : arguments.split(", ");
        for (Method method : CheckedMachine.class.getDeclaredMethods()) {
            if (method.getName().equals(name) && method.getParameterCount() == texts.length) {
                return made(method, texts);
            }
        }
        return "no such method";
    }

    private static String made(Method method, String[] texts) {
        Object[] values = new Object[texts.length];
        for (int i = 0; i < texts.length; i++) {
            Class<?> type = method.getParameterTypes()[i];
            values[i] = type == boolean.class ? (Object) Boolean.valueOf(texts[i])
                    : type == long.class ? (Object) Long.valueOf(texts[i]) : (Object) Integer.valueOf(texts[i]);
        }
        try {
            return String.valueOf(method.invoke(machine, values));
        } catch (InvocationTargetException e) {
            return e.getCause().getClass().getSimpleName();
        } catch (IllegalAccessException e) {
            return "not public";
        }
    }
}
