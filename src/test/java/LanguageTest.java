import java.io.IOException;
import java.lang.reflect.Field;
import java.lang.reflect.Method;
import java.lang.reflect.Modifier;
import java.nio.file.Files;
import java.nio.file.Path;
import java.util.Arrays;
import java.util.List;
import java.util.regex.Matcher;
import java.util.regex.Pattern;

/** The rules of LANGUAGE.md that can be told from the class's text and from its members. */
public final class LanguageTest {
    private static final Path SOURCE = Path.of("src/main/java/CheckedMachine.java");
    // Rules 2, 6 and 10: no lambdas, no method references, nothing of these.
    private static final String FORBIDDEN = "->|::|\\b(finally|synchronized|assert|try|catch|enum|record|interface"
            + "|abstract|volatile|transient|native|package|float|double|var|Object|getClass|equals|hashCode|toString"
            + "|getMessage|Thread|Random|Scanner|String|Integer|new ArrayList|\\w+Exact)\\b|static \\{|while \\(true";
    private static final String LIBRARY_CALL = "\\b(System|Math|Arrays|Long|Integer)\\.(\\w+)";
    private static final List<String> LIBRARY = Arrays.asList("System.arraycopy", "Math.max", "Math.min",
            "Long.MIN_VALUE", "Long.MAX_VALUE");
    private static final String THROW = "throw new (IllegalStateException|IllegalArgumentException"
            + "|UnsupportedOperationException|NoSuchElementException)\\(\"\"\\);";
    private static final int MOST_PARAMETERS = 7;
    private static final int MOST_LINES = 60;
    private static final int MOST_CLASSES = 12;
    private static final int MOST_FIELDS = 20;

    public static void main(String[] args) throws IOException {
        String code = withoutWords(Files.readString(SOURCE));
        Expect.due("what the rules leave out", found(FORBIDDEN, code), "");
        Expect.due("imports", found("import .*", code), "import java.util.NoSuchElementException;");
        for (String call : all(LIBRARY_CALL, code)) {
            Expect.due("library " + call, LIBRARY.contains(call) ? 1 : 0, 1);
        }
        Expect.due("throws by rule 6", all(THROW, code).size(), all("\\bthrow\\b", code).size());
        lengths(code.split("\n"));
        Class<?>[] inner = CheckedMachine.class.getDeclaredClasses();
        Expect.due("few classes", inner.length + 1 <= MOST_CLASSES ? 1 : 0, 1);
        members(CheckedMachine.class);
        for (Class<?> type : inner) {
            members(type);
        }
        Expect.end();
    }

    /** The code without comments and with empty texts, so that words in them don't count. */
    private static String withoutWords(String source) {
        return source.replaceAll("(?s)/\\*.*?\\*/", "").replaceAll("//.*", "").replaceAll("\"[^\"\n]*\"", "\"\"");
    }

    private static List<String> all(String pattern, String code) {
        return Pattern.compile(pattern).matcher(code).results().map(r -> r.group()).toList();
    }

    private static String found(String pattern, String code) {
        return String.join(" ", all(pattern, code));
    }

    /** A method begins as far in as its class's members do, and ends with the next brace that stands there. */
    private static void lengths(String[] lines) {
        Pattern head = Pattern.compile("( {4}| {8})(?=\\w)[\\w\\[\\] ]+\\(.*");
        int methods = 0;
        for (int i = 0; i < lines.length; i++) {
            Matcher matcher = head.matcher(lines[i]);
            if (matcher.matches() && !lines[i].endsWith(";") && !lines[i].contains("=")) {
                int end = endOf(lines, i, matcher.group(1) + "}");
                Expect.due("a short method:" + lines[i], end - i < MOST_LINES ? 1 : 0, 1);
                methods++;
            }
        }
        Expect.due("methods found", methods > 80 ? 1 : 0, 1);
    }

    private static int endOf(String[] lines, int from, String brace) {
        int end = from;
        while (end < lines.length && !lines[end].equals(brace)) {
            end++;
        }
        return end;
    }

    private static void members(Class<?> type) {
        int fields = 0;
        for (Field field : type.getDeclaredFields()) {
            fields += Modifier.isStatic(field.getModifiers()) ? 0 : 1;
        }
        Expect.due(type.getName() + " has few fields", fields <= MOST_FIELDS ? 1 : 0, 1);
        for (Method method : type.getDeclaredMethods()) {
            Expect.due("few parameters: " + method, method.getParameterCount() <= MOST_PARAMETERS ? 1 : 0, 1);
        }
    }
}
