import java.io.IOException;
import java.lang.reflect.InvocationTargetException;
import java.lang.reflect.Method;
import java.nio.file.Files;
import java.nio.file.Path;
import java.util.ArrayList;
import java.util.HashMap;
import java.util.List;
import java.util.Map;
import java.util.Set;
import java.util.TreeSet;
import java.util.regex.Matcher;
import java.util.regex.Pattern;

/** README.md: its table names every call of the face, and its examples answer what stands behind them. */
public final class ReadmeTest {
    private static final Path README = Path.of("README.md");
    private static final String NEW = "ObjectDriver driver = new ObjectDriver();";
    private static final Pattern ROW = Pattern.compile("\\| `(\\w+ \\w+)\\(([^)]*)\\)` \\|.*");
    private static final Pattern CALL = Pattern.compile(
            "(?:int (\\w+) = )?driver\\.(\\w+)\\(([^)]*)\\);(?: +// (throws \\w+|-?\\d+|true|false)(?::.*)?)?");

    private final Checked x = new Checked("README.md");
    private final Map<String, Object> values = new HashMap<>();
    private ObjectDriver driver;
    private int calls;

    public static void main(String[] args) throws IOException, IllegalAccessException {
        List<String> lines = Files.readAllLines(README);
        ReadmeTest test = new ReadmeTest();
        test.namesEveryCall(lines);
        test.answersAsItSays(lines);
        Checked.end();
    }

    private void namesEveryCall(List<String> lines) {
        Set<String> named = new TreeSet<>();
        for (String line : lines) {
            Matcher row = ROW.matcher(line);
            if (row.matches()) {
                named.add(row.group(1) + "(" + row.group(2).replaceAll(" \\w+(?=,|$)", "").replace(" ", "") + ")");
            }
        }
        x.due("the calls of the table", named, FaceTest.face());
    }

    private void answersAsItSays(List<String> lines) throws IllegalAccessException {
        boolean java = false;
        for (String line : lines) {
            if (line.startsWith("```")) {
                java = line.equals("```java");
            } else if (java && line.equals(NEW)) {
                driver = new ObjectDriver();
                values.clear();
            } else if (java) {
                make(line);
            }
        }
        x.due("that there are examples", calls > 0, true);
    }

    private void make(String line) throws IllegalAccessException {
        Matcher call = CALL.matcher(line);
        Method method = call.matches() ? methodOf(call.group(2)) : null;
        if (method == null || driver == null) {
            x.due(line, "no call of the face", "a call of the face on a new driver");
            return;
        }
        String got = answer(method, call.group(3));
        x.due(line, got, call.group(4) == null ? "null" : call.group(4));
        if (call.group(1) != null) {
            values.put(call.group(1), Integer.valueOf(got));
        }
        calls++;
    }

    private static Method methodOf(String name) {
        for (Method method : ObjectDriver.class.getMethods()) {
            if (method.getDeclaringClass() == ObjectDriver.class && method.getName().equals(name)) {
                return method;
            }
        }
        return null;
    }

    /** The answer as README.md writes it; a call that answers nothing has "null", and no comment there. */
    private String answer(Method method, String arguments) throws IllegalAccessException {
        List<Object> given = new ArrayList<>();
        for (String argument : arguments.split(", ")) {
            given.add(valueOf(argument));
        }
        try {
            return String.valueOf(method.invoke(driver, given.toArray()));
        } catch (InvocationTargetException e) {
            return "throws " + e.getCause().getClass().getSimpleName();
        }
    }

    private Object valueOf(String argument) {
        if (values.containsKey(argument)) {
            return values.get(argument);
        }
        if (argument.equals("true") || argument.equals("false")) {
            return Boolean.valueOf(argument);
        }
        return Integer.valueOf(argument);
    }
}
