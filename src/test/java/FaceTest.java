import java.lang.reflect.Constructor;
import java.lang.reflect.Field;
import java.lang.reflect.Method;
import java.lang.reflect.Modifier;
import java.util.Arrays;
import java.util.Set;
import java.util.TreeSet;

/** "The public face", and rules 1 and 5 of LANGUAGE.md as far as reflection can tell. */
public final class FaceTest {
    private static final Set<String> FACE = new TreeSet<>(Arrays.asList(
            "int add(int, int, int, int, int) IllegalArgumentException IllegalStateException",
            "void put(int, int, int, int, int, int) IllegalArgumentException NoSuchElementException",
            "void cut(int) IllegalArgumentException",
            "int check() IllegalArgumentException UnsupportedOperationException",
            "long run(long) IllegalStateException",
            "long row(int, int) IllegalArgumentException",
            "void fill(int, int, long) IllegalArgumentException",
            "long outcome(boolean) IllegalStateException",
            "int count(int)"));

    public static void main(String[] args) {
        Class<?> type = CheckedMachine.class;
        int modifiers = type.getModifiers();
        Expect.due("public and final", Modifier.isPublic(modifiers) && Modifier.isFinal(modifiers) ? 1 : 0, 1);
        Set<String> found = new TreeSet<>();
        Set<String> names = new TreeSet<>();
        for (Method method : type.getDeclaredMethods()) {
            if (!Modifier.isPrivate(method.getModifiers())) {
                found.add(describe(method));
                names.add(method.getName());
            }
        }
        Expect.due("the face", found.toString(), FACE.toString());
        for (Constructor<?> constructor : type.getDeclaredConstructors()) {
            Expect.due("constructors", constructor.toString(), "public CheckedMachine()");
        }
        privateMembers(type, names);
        for (Class<?> inner : type.getDeclaredClasses()) {
            Expect.due(inner.getName() + " static", Modifier.isStatic(inner.getModifiers()) ? 1 : 0, 1);
            privateMembers(inner, names);
        }
        Expect.end();
    }

    private static String describe(Method method) {
        StringBuilder text = new StringBuilder(method.getReturnType().getName());
        text.append(' ').append(method.getName()).append('(');
        String between = "";
        for (Class<?> parameter : method.getParameterTypes()) {
            text.append(between).append(parameter.getName());
            between = ", ";
        }
        text.append(')');
        for (Class<?> exception : method.getExceptionTypes()) {
            text.append(' ').append(exception.getSimpleName());
        }
        return text.toString();
    }

    private static void privateMembers(Class<?> type, Set<String> faceNames) {
        for (Method method : type.getDeclaredMethods()) {
            boolean clash = Modifier.isPrivate(method.getModifiers()) && faceNames.contains(method.getName());
            Expect.due("a private method named like the face's: " + method, clash ? 1 : 0, 0);
        }
        for (Field field : type.getDeclaredFields()) {
            boolean isFinal = Modifier.isFinal(field.getModifiers());
            Expect.due("static state " + field, Modifier.isStatic(field.getModifiers()) && !isFinal ? 1 : 0, 0);
            boolean isPrivate = Modifier.isPrivate(field.getModifiers());
            Expect.due("visible field " + field, type == CheckedMachine.class && !isPrivate ? 1 : 0, 0);
        }
    }
}
