import java.io.IOException;
import java.lang.reflect.InvocationTargetException;
import java.lang.reflect.Method;
import java.nio.file.Files;
import java.nio.file.Path;
import java.util.Arrays;
import java.util.HashMap;
import java.util.HashSet;
import java.util.List;
import java.util.Map;
import java.util.Set;
import java.util.regex.Matcher;
import java.util.regex.Pattern;

/** What README.md says of calls, their answers and their exceptions is so. */
public final class ReadmeTest {
    private static final Pattern CALL =
            Pattern.compile("net\\.(\\w+)\\(([^)]*)\\);(?:\\s*// (.*))?");
    private static final Pattern ROW =
            Pattern.compile("\\| `(\\w+)\\(([^)]*)\\)` \\| (.*) \\| (.*) \\|");

    private final Due due = new Due();
    private final Map<String, Method> methods = new HashMap<>();
    private final Set<String> called = new HashSet<>();
    private final Set<String> told = new HashSet<>();
    private final ClockTree net = new ClockTree();

    public static void main(String[] args) throws Exception {
        ReadmeTest test = new ReadmeTest();
        test.read(Files.readAllLines(Path.of("README.md")));
        test.due.end();
    }

    private ReadmeTest() {
        for (Method method : ClockTree.class.getMethods()) {
            if (method.getDeclaringClass() == ClockTree.class) {
                methods.put(method.getName(), method);
            }
        }
    }

    private void read(List<String> lines) throws IOException, IllegalAccessException {
        boolean inJava = false;
        for (String line : lines) {
            if (line.startsWith("```")) {
                inJava = line.equals("```java");
            } else if (inJava) {
                readCode(line);
            } else {
                readRow(line);
            }
        }
        due.is("methods called", called.size(), methods.size());
        due.is("methods in the table", told.size(), methods.size());
    }

    private void readCode(String line) throws IllegalAccessException {
        if (line.isEmpty() || line.startsWith("//")
                || line.equals("ClockTree net = new ClockTree();")) {
            return;
        }
        Matcher call = CALL.matcher(line);
        if (!call.matches() || !methods.containsKey(call.group(1))) {
            due.say("not a call: " + line);
            return;
        }
        Method method = methods.get(call.group(1));
        called.add(method.getName());
        String comment = call.group(3) == null ? "" : call.group(3);
        String want = comment.contains(": ") ? comment.substring(0, comment.indexOf(": ")) : "";
        String got = answer(method, arguments(method, call.group(2)));
        if (!got.equals("null") && !got.equals(want)) {
            due.say(line + " answered " + got);
        }
        if (got.equals("null") && !want.isEmpty()) {
            due.say(line + " has no answer");
        }
    }

    private String answer(Method method, Object[] arguments) throws IllegalAccessException {
        try {
            return String.valueOf(method.invoke(net, arguments));
        } catch (InvocationTargetException thrown) {
            return thrown.getCause().getClass().getSimpleName();
        }
    }

    private Object[] arguments(Method method, String text) {
        String[] parts = text.isEmpty() ? new String[0] : text.split(", ");
        Object[] arguments = new Object[parts.length];
        for (int i = 0; i < parts.length; i++) {
            if (method.getParameterTypes()[i] == boolean.class) {
                arguments[i] = Boolean.valueOf(parts[i]);
            } else if (parts[i].equals("ClockTree.NONE")) {
                arguments[i] = ClockTree.NONE;
            } else {
                arguments[i] = Integer.valueOf(parts[i]);
            }
        }
        return arguments;
    }

    private void readRow(String line) {
        Matcher row = ROW.matcher(line);
        if (!row.matches()) {
            return;
        }
        String name = row.group(1);
        Method method = methods.get(name);
        if (method == null) {
            due.say("no such call: " + line);
            return;
        }
        told.add(name);
        int parameters = row.group(2).isEmpty() ? 0 : row.group(2).split(", ").length;
        due.is(name + "'s parameters", method.getParameterCount(), parameters);
        List<Class<?>> thrown = Arrays.asList(method.getExceptionTypes());
        due.is(name + " throws IllegalArgumentException",
                thrown.contains(IllegalArgumentException.class), !row.group(3).equals("never"));
        due.is(name + " throws IllegalStateException",
                thrown.contains(IllegalStateException.class), !row.group(4).equals("never"));
    }
}
