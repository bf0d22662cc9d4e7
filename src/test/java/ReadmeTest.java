import java.io.IOException;
import java.lang.reflect.InvocationTargetException;
import java.lang.reflect.Method;
import java.nio.file.Files;
import java.nio.file.Path;
import java.util.List;
import java.util.regex.Matcher;
import java.util.regex.Pattern;

/** README.md: its calls answer what stands behind them, and its statements can be read. */
public final class ReadmeTest {
    private static final Pattern CALL = Pattern.compile("store\\.(\\w+)\\((.*?)\\);(?: *// (-?\\w+).*)?");
    private static final Pattern STATEMENT = Pattern.compile("`([IDUSPAB][0-2][^`]*)`");

    public static void main(String[] args) throws IOException, IllegalAccessException {
        Checks checks = new Checks();
        List<String> lines = Files.readAllLines(Path.of("README.md"));
        QueryStore store = new QueryStore();
        int calls = 0;
        int statements = 0;
        for (String line : lines) {
            Matcher call = CALL.matcher(line);
            if (call.matches()) {
                String due = call.group(3) == null ? "null" : call.group(3);
                checks.sameText(line, answer(store, call.group(1), call.group(2)), due);
                calls++;
            }
            Matcher statement = STATEMENT.matcher(line);
            while (statement.find()) {
                checks.reads(statement.group(1).replace("\\|", "|"));
                statements++;
            }
        }
        checks.isTrue("README.md shows calls and statements", calls > 0 && statements > 0);
        checks.finish();
    }

    /** What the call answers, or the name of what it throws. */
    private static String answer(QueryStore store, String name, String arguments)
            throws IllegalAccessException {
        try {
            return String.valueOf(methodNamed(name).invoke(store, numbers(name, arguments)));
        } catch (InvocationTargetException e) {
            return e.getCause().getClass().getSimpleName();
        }
    }

    private static Method methodNamed(String name) {
        for (Method method : QueryStore.class.getMethods()) {
            if (method.getName().equals(name)) {
                return method;
            }
        }
        throw new IllegalArgumentException("no call " + name);
    }

    private static Object[] numbers(String name, String arguments) {
        if (arguments.isEmpty()) {
            return new Object[0];
        }
        if (name.equals("type")) {
            return new Object[] {Long.decode(arguments.replace("_", "").replace("L", ""))};
        }
        String[] parts = arguments.split(", ");
        Object[] all = new Object[parts.length];
        for (int i = 0; i < parts.length; i++) {
            all[i] = Integer.valueOf(parts[i]);
        }
        return all;
    }
}
