import java.lang.reflect.Constructor;
import java.lang.reflect.Field;
import java.lang.reflect.Method;
import java.lang.reflect.Modifier;
import java.util.TreeSet;

/** The public face, and that nothing else of the class can be seen (rule 1 of LANGUAGE.md). */
final class FaceTest {
    private static final String METHODS = "[alike(int int) boolean, at(int) int, clear() void,"
        + " count() int, define(int int int) boolean, failure(int) int, failures() int,"
        + " kind(int) int, length() int, link(int int) int, make(int) int, number(int int) int,"
        + " reachable(int) int, read() int, setLink(int int int) boolean,"
        + " setNumber(int int int) boolean, type(char) boolean,"
        + " values(int int int int int) boolean, wipe() void, write(int) int]";

    public static void main(String[] args) {
        Check check = new Check();
        Class<?> face = ReplayedBeans.class;
        check.due("modifiers", Modifier.toString(face.getModifiers()), "public final");
        check.due("methods", visibleMethods(face), METHODS);
        check.due("fields", visibleFields(face), "[NONE, TOO_DEEP, TOO_LONG]");
        check.due("constructors", constructors(face), "[public 0]");
        check.due("NONE", ReplayedBeans.NONE, -1);
        check.due("TOO_DEEP", ReplayedBeans.TOO_DEEP, -2);
        check.due("TOO_LONG", ReplayedBeans.TOO_LONG, -3);
        check.due("private methods with a public name", hiddenNames(face), "[]");
        check.due("static fields that are not final", looseStatics(face), "[]");
        check.finish();
    }

    private static String visibleMethods(Class<?> face) {
        TreeSet<String> found = new TreeSet<>();
        for (Method m : face.getDeclaredMethods()) {
            if (Modifier.isPrivate(m.getModifiers()) || m.isSynthetic()) {
                continue;
            }
            StringBuilder line = new StringBuilder(m.getName()).append('(');
            for (Class<?> type : m.getParameterTypes()) {
                line.append(line.charAt(line.length() - 1) == '(' ? "" : " ").append(type);
            }
            line.append(") ").append(m.getReturnType());
            found.add(Modifier.isPublic(m.getModifiers()) ? line.toString() : "not public: " + line);
        }
        return found.toString();
    }

    private static String visibleFields(Class<?> face) {
        TreeSet<String> found = new TreeSet<>();
        for (Field f : face.getDeclaredFields()) {
            if (!Modifier.isPrivate(f.getModifiers())) {
                found.add(f.getName());
            }
        }
        return found.toString();
    }

    private static String constructors(Class<?> face) {
        TreeSet<String> found = new TreeSet<>();
        for (Constructor<?> c : face.getDeclaredConstructors()) {
            found.add(Modifier.toString(c.getModifiers()) + " " + c.getParameterCount());
        }
        return found.toString();
    }

    private static String hiddenNames(Class<?> face) {
        TreeSet<String> open = new TreeSet<>();
        for (Method m : face.getDeclaredMethods()) {
            if (Modifier.isPublic(m.getModifiers())) {
                open.add(m.getName());
            }
        }
        TreeSet<String> hidden = new TreeSet<>();
        for (Class<?> inside : face.getDeclaredClasses()) {
            for (Method m : inside.getDeclaredMethods()) {
                hidden.add(m.getName());
            }
        }
        hidden.retainAll(open);
        return hidden.toString();
    }

    private static String looseStatics(Class<?> face) {
        TreeSet<String> loose = new TreeSet<>();
        for (Class<?> inside : face.getDeclaredClasses()) {
            addLooseStatics(inside, loose);
        }
        addLooseStatics(face, loose);
        return loose.toString();
    }

    private static void addLooseStatics(Class<?> type, TreeSet<String> loose) {
        for (Field f : type.getDeclaredFields()) {
            if (Modifier.isStatic(f.getModifiers()) && !Modifier.isFinal(f.getModifiers())) {
                loose.add(type.getName() + "." + f.getName());
            }
        }
    }
}
