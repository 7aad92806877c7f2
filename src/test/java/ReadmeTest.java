import java.io.IOException;
import java.lang.reflect.Method;
import java.nio.file.Files;
import java.nio.file.Path;
import java.util.HashMap;
import java.util.List;
import java.util.Map;
import java.util.regex.Matcher;
import java.util.regex.Pattern;

/** Does the calls of README.md's examples, one after another, and compares what stands behind them. */
final class ReadmeTest {
    private static final Check CHECK = new Check();
    private static final Pattern CALL =
        Pattern.compile("(?:int (\\w+) = )?beans\\.(\\w+)\\((.*)\\);(?: +// (-?\\w+).*)?");
    private static final Pattern TYPING =
        Pattern.compile("for \\(char c : \"(.*)\"\\.toCharArray\\(\\)\\) beans\\.type\\(c\\);");
    private static final String MAKING = "ReplayedBeans beans = new ReplayedBeans();";

    private final Map<String, Integer> variables = new HashMap<>();
    private ReplayedBeans beans = new ReplayedBeans();
    private int calls;

    public static void main(String[] args) throws IOException, ReflectiveOperationException {
        ReadmeTest test = new ReadmeTest();
        boolean example = false;
        for (String line : Files.readAllLines(Path.of("README.md"))) {
            if (line.startsWith("```")) {
                example = line.equals("```java");
            } else if (example) {
                test.follow(line);
            }
        }
        CHECK.due("calls were found", test.calls >= 20, true);
        CHECK.finish();
    }

    private void follow(String line) throws ReflectiveOperationException {
        Matcher call = CALL.matcher(line);
        Matcher typing = TYPING.matcher(line);
        if (line.equals(MAKING)) {
            beans = new ReplayedBeans();
        } else if (typing.matches()) {
            Check.typeAll(beans, typing.group(1));
        } else if (call.matches()) {
            follow(line, call);
        } else {
            CHECK.due("README.md has a line that is no call", line, "");
        }
    }

    private void follow(String line, Matcher call) throws ReflectiveOperationException {
        calls++;
        Method method = methodOfName(call.group(2));
        Object answer = method.invoke(beans, argumentsOf(call.group(3)));
        if (method.getReturnType() != void.class) {
            CHECK.due("README.md: " + line, String.valueOf(answer), String.valueOf(call.group(4)));
        }
        if (call.group(1) != null) {
            variables.put(call.group(1), (Integer) answer);
        }
    }

    private static Method methodOfName(String name) {
        for (Method m : ReplayedBeans.class.getDeclaredMethods()) {
            if (m.getName().equals(name)) {
                return m;
            }
        }
        throw new IllegalArgumentException("README.md calls " + name);
    }

    private Object[] argumentsOf(String list) {
        List<String> words = list.isEmpty() ? List.of() : List.of(list.split(", "));
        return words.stream().map(this::argumentOf).toArray();
    }

    private Object argumentOf(String word) {
        if (word.startsWith("'")) {
            return word.charAt(1);
        }
        Integer known = variables.get(word);
        return known == null ? Integer.valueOf(word) : known;
    }
}
