import java.io.IOException;
import java.lang.reflect.Method;
import java.nio.file.Files;
import java.nio.file.Path;
import java.util.HashMap;
import java.util.List;
import java.util.Map;
import java.util.regex.Matcher;
import java.util.regex.Pattern;

/** The example of README.md answers what its comments say, and README.md names every call and every test. */
public final class ReadmeTest {
    private static final Path README = Path.of("README.md");
    private static final Path TESTS = Path.of("src/test/java");

    /** As in: int handle = x.register(3);   // 3: producer 3, generation 0. */
    private static final Pattern STEP =
        Pattern.compile("(?:int (\\w+) = )?x\\.(\\w+)\\((.*)\\);\\s*// (-?\\d+)(?:[: ].*)?");

    private final TallyLogs x = new TallyLogs();
    private final Map<String, Object> names = new HashMap<>();

    public static void main(String[] args) throws IOException, ReflectiveOperationException {
        Due.about("README.md");
        List<String> lines = Files.readAllLines(README);
        new ReadmeTest().runExample(lines);
        String text = String.join("\n", lines);
        for (Method method : TallyLogs.class.getMethods()) {
            if (method.getDeclaringClass() == TallyLogs.class) {
                Due.holds("names " + method.getName(), text.contains("`" + method.getName() + "("));
            }
        }
        for (String test : TESTS.toFile().list()) {
            Due.holds("names " + test, text.contains("`" + test.replace(".java", "") + "`"));
        }
        Due.end();
    }

    private void runExample(List<String> lines) throws ReflectiveOperationException {
        int first = lines.indexOf("```java") + 1;
        int steps = 0;
        for (int i = first; first > 0 && i < lines.size() && !lines.get(i).equals("```"); i++) {
            Matcher step = STEP.matcher(lines.get(i).trim());
            if (step.matches()) {
                runStep(step);
                steps++;
            } else {
                Due.holds(lines.get(i) + " is a step", lines.get(i).equals("TallyLogs x = new TallyLogs();"));
            }
        }
        Due.holds("has an example", steps > 0);
    }

    private void runStep(Matcher step) throws ReflectiveOperationException {
        String[] told = step.group(3).split(", ");
        Object[] args = new Object[told.length];
        Class<?>[] types = new Class<?>[told.length];
        for (int i = 0; i < told.length; i++) {
            args[i] = valueOf(told[i]);
            types[i] = args[i] instanceof Boolean ? boolean.class : int.class;
        }
        Number got = (Number) TallyLogs.class.getMethod(step.group(2), types).invoke(x, args);
        Due.same(step.group(), got.longValue(), Long.parseLong(step.group(4)));
        if (step.group(1) != null) {
            names.put(step.group(1), got);
        }
    }

    private Object valueOf(String text) {
        if (text.equals("true") || text.equals("false")) {
            return Boolean.valueOf(text);
        }
        return names.containsKey(text) ? names.get(text) : (Object) Integer.valueOf(text);
    }
}
