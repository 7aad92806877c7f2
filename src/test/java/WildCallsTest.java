import java.lang.reflect.InvocationTargetException;
import java.lang.reflect.Method;
import java.lang.reflect.Modifier;
import java.util.ArrayList;
import java.util.Comparator;
import java.util.List;
import java.util.Random;

/**
 * All promises, for any arguments in any state: every method of the face is called with numbers of all
 * sizes, beside the same method of the model. Past the 512th call the answers are free, but no call
 * throws there either (rule 7 of LANGUAGE.md).
 */
final class WildCallsTest {
    private static final Check CHECK = new Check();
    private static final int RUNS = 1500;
    private static final int MOST_CALLS = 512;
    private static final int CALLS_BEYOND = 20000;
    private static final int[] FAR = {Integer.MIN_VALUE, Integer.MIN_VALUE + 1, -100000, -99999, -1001, -2, 4, 23,
        24, 25, 300, 301, 1001, 99999, 100000, Integer.MAX_VALUE - 1, Integer.MAX_VALUE};

    private final Random random;
    private final List<Method> face = faceMethods();
    private final ReplayedBeans beans = new ReplayedBeans();
    private final Model model = new Model();

    private WildCallsTest(int run) {
        random = new Random(run);
    }

    public static void main(String[] args) throws ReflectiveOperationException {
        for (int run = 0; run < RUNS; run++) {
            new WildCallsTest(run).besideTheModel(run);
        }
        new WildCallsTest(RUNS).beyondThe512th();
        CHECK.finish();
    }

    /** In an order of its own, as reflection promises none. */
    private static List<Method> faceMethods() {
        List<Method> found = new ArrayList<>();
        for (Method m : ReplayedBeans.class.getDeclaredMethods()) {
            if (Modifier.isPublic(m.getModifiers())) {
                found.add(m);
            }
        }
        found.sort(Comparator.comparing(Method::getName));
        return found;
    }

    private void besideTheModel(int run) throws ReflectiveOperationException {
        for (int call = 0; call < MOST_CALLS; call++) {
            Method m = face.get(random.nextInt(face.size()));
            Object[] arguments = argumentsFor(m);
            Method same = Model.class.getDeclaredMethod(m.getName(), m.getParameterTypes());
            String told = "run " + run + ", call " + call + ", " + m.getName() + List.of(arguments);
            CHECK.due(told, answer(m, beans, arguments), answer(same, model, arguments));
        }
    }

    private void beyondThe512th() throws ReflectiveOperationException {
        for (int call = 0; call < CALLS_BEYOND; call++) {
            Method m = face.get(random.nextInt(face.size()));
            Object[] arguments = argumentsFor(m);
            boolean throwing = answer(m, beans, arguments).startsWith("throws");
            CHECK.due("call " + call + ", " + m.getName() + List.of(arguments) + " throws", throwing, false);
        }
    }

    private Object[] argumentsFor(Method m) {
        Object[] arguments = new Object[m.getParameterCount()];
        for (int i = 0; i < arguments.length; i++) {
            boolean number = m.getParameterTypes()[i] == int.class;
            arguments[i] = number ? (Object) anyNumber() : (Object) anyCharacter();
        }
        return arguments;
    }

    private int anyNumber() {
        int way = random.nextInt(12);
        if (way == 0) {
            return random.nextInt();
        }
        return way == 1 ? FAR[random.nextInt(FAR.length)] : random.nextInt(5) - 1;
    }

    private char anyCharacter() {
        String letters = "(((abcd)))#@~=xyzpq019-";
        boolean any = random.nextInt(8) == 0;
        return any ? (char) random.nextInt(65536) : letters.charAt(random.nextInt(letters.length()));
    }

    private static String answer(Method m, Object on, Object[] arguments) throws IllegalAccessException {
        try {
            return String.valueOf(m.invoke(on, arguments));
        } catch (InvocationTargetException thrown) {
            return "throws " + thrown.getCause();
        }
    }
}
