import java.io.IOException;
import java.lang.reflect.Method;
import java.lang.reflect.Modifier;
import java.nio.file.Files;
import java.nio.file.Path;
import java.util.HashMap;
import java.util.Map;
import java.util.Set;
import java.util.TreeSet;
import java.util.regex.Matcher;
import java.util.regex.Pattern;

/** Makes the calls of README.md's examples and compares the answers that stand behind them. */
public final class ReadmeTest {
    private static final Pattern EXAMPLE = Pattern.compile("```java\n(.*?)```", Pattern.DOTALL);
    private static final String NEW_DESK = "ExecutiveDesk desk = new ExecutiveDesk();";
    private static final Pattern CALL =
        Pattern.compile("(?:int (\\w+) = )?desk\\.(\\w+)\\(([^()]*)\\); +// (-?\\d+|[A-Z_]+)(?:: .+)?");
    private static final Pattern VALUE = Pattern.compile("\\| `([A-Z_]+)` \\| (-?\\d+) \\|");

    private final Checks checks = new Checks("ReadmeTest");
    private final Set<String> shown = new TreeSet<>();
    private final Map<String, Integer> names = new HashMap<>();
    private ExecutiveDesk desk;

    public static void main(String[] args) throws IOException, ReflectiveOperationException {
        new ReadmeTest().compare(Files.readString(Path.of("README.md")));
    }

    private void compare(String readme) throws ReflectiveOperationException {
        Matcher example = EXAMPLE.matcher(readme);
        while (example.find()) {
            desk = null;
            names.clear();
            for (String line : example.group(1).split("\n")) {
                follow(line);
            }
        }
        checks.due("calls of the face that no example shows, " + notShown() + ",", 0, notShown().size());
        int values = 0;
        for (Matcher value = VALUE.matcher(readme); value.find(); values++) {
            checks.due(value.group(1), constant(value.group(1)), Integer.parseInt(value.group(2)));
        }
        checks.due("constants with their values", 12, values);
        checks.end();
    }

    private void follow(String line) throws ReflectiveOperationException {
        if (line.equals(NEW_DESK)) {
            desk = new ExecutiveDesk();
            return;
        }
        Matcher call = CALL.matcher(line);
        boolean told = desk != null && call.matches();
        checks.due("a line is told as a call with its answer: " + line, 1, told ? 1 : 0);
        if (told) {
            int got = answer(call.group(2), call.group(3));
            checks.due(line, number(call.group(4)), got);
            names.put(call.group(1), got);
        }
    }

    private int answer(String name, String arguments) throws ReflectiveOperationException {
        String[] words = arguments.isEmpty() ? new String[0] : arguments.split(", ");
        Object[] values = new Object[words.length];
        for (int i = 0; i < words.length; i++) {
            boolean truth = words[i].equals("true") || words[i].equals("false");
            values[i] = truth ? (Object) Boolean.valueOf(words[i]) : (Object) number(words[i]);
        }
        shown.add(name);
        return (int) method(name).invoke(desk, values);
    }

    private int number(String word) throws ReflectiveOperationException {
        if (names.containsKey(word)) {
            return names.get(word);
        }
        return Character.isUpperCase(word.charAt(0)) ? constant(word) : Integer.parseInt(word);
    }

    private static int constant(String name) throws ReflectiveOperationException {
        return ExecutiveDesk.class.getField(name).getInt(null);
    }

    private static Method method(String name) throws ReflectiveOperationException {
        for (Method method : ExecutiveDesk.class.getDeclaredMethods()) {
            if (Modifier.isPublic(method.getModifiers()) && method.getName().equals(name)) {
                return method;
            }
        }
        throw new NoSuchMethodException(name);
    }

    private Set<String> notShown() {
        Set<String> left = new TreeSet<>();
        for (Method method : ExecutiveDesk.class.getDeclaredMethods()) {
            if (Modifier.isPublic(method.getModifiers()) && !shown.contains(method.getName())) {
                left.add(method.getName());
            }
        }
        return left;
    }
}
