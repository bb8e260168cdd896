import java.io.IOException;
import java.lang.reflect.Method;
import java.nio.file.Files;
import java.nio.file.Path;
import java.util.regex.Matcher;
import java.util.regex.Pattern;

/** Makes the calls of README.md's example, and compares their answers with the numbers that stand behind them. */
public final class ReadmeTest {
    private static final Pattern CALL = Pattern.compile("circuit\\.(\\w+)\\((.*?)\\);\\s*// (-?\\d+): .*");
    private static final String BEGINNING = "CircuitReels circuit = new CircuitReels();";
    private static final Checks checks = new Checks();

    public static void main(String[] args) throws IOException, ReflectiveOperationException {
        String readme = Files.readString(Path.of(args[0], "README.md"));
        Matcher example = Pattern.compile("```java\n(.*?)```", Pattern.DOTALL).matcher(readme);
        checks.holds("README.md has an example", example.find());
        CircuitReels circuit = new CircuitReels();
        String[] lines = example.group(1).split("\n");
        checks.holds("it begins with a new object", lines[0].equals(BEGINNING));
        for (int line = 1; line < lines.length; line++) {
            check(circuit, lines[line]);
        }
        checks.end();
    }

    private static void check(CircuitReels circuit, String line) throws ReflectiveOperationException {
        Matcher call = CALL.matcher(line);
        if (!call.matches()) {
            checks.holds("a call with its answer: " + line, false);
            return;
        }
        String[] values = call.group(2).isEmpty() ? new String[0] : call.group(2).split(", ");
        for (Method method : CircuitReels.class.getMethods()) {
            if (method.getName().equals(call.group(1)) && method.getParameterCount() == values.length) {
                checks.due(line, (int) method.invoke(circuit, arguments(method, values)), Long.parseLong(call.group(3)));
                return;
            }
        }
        checks.holds("there is such a call: " + line, false);
    }

    private static Object[] arguments(Method method, String[] values) throws ReflectiveOperationException {
        Object[] arguments = new Object[values.length];
        for (int index = 0; index < values.length; index++) {
            if (method.getParameterTypes()[index] == long.class) {
                arguments[index] = Long.decode(values[index].replace("L", ""));
            } else {
                arguments[index] = number(values[index]);
            }
        }
        return arguments;
    }

    private static int number(String value) throws ReflectiveOperationException {
        String prefix = "CircuitReels.";
        if (value.startsWith(prefix)) {
            return CircuitReels.class.getField(value.substring(prefix.length())).getInt(null);
        }
        return Integer.decode(value);
    }
}
