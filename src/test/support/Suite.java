import java.lang.reflect.InvocationTargetException;
import java.lang.reflect.Method;
import java.util.Map;
import java.util.TreeMap;
import java.util.regex.Matcher;
import java.util.regex.Pattern;

/** Runs the tests of a class: its static methods that are named p, a promise's number, and a sentence. */
final class Suite {
    private static final Pattern TEST = Pattern.compile("p(\\d+)([A-Z]\\w*)");

    private Suite() {
    }

    static void run(Class<?> tests, int... promises) throws IllegalAccessException {
        Map<String, Method> byName = new TreeMap<>();
        for (Method method : tests.getDeclaredMethods()) {
            byName.put(method.getName(), method);
        }
        for (int promise : promises) {
            int ran = 0;
            for (Map.Entry<String, Method> each : byName.entrySet()) {
                Matcher name = TEST.matcher(each.getKey());
                if (name.matches() && Integer.parseInt(name.group(1)) == promise) {
                    Due.about("promise " + promise + ", " + name.group(2));
                    runOne(each.getValue());
                    byName.put(each.getKey(), null);
                    ran++;
                }
            }
            Due.about("promise " + promise);
            Due.holds("has tests", ran > 0);
        }
        for (Map.Entry<String, Method> each : byName.entrySet()) {
            Due.holds(each.getKey() + " was run", each.getValue() == null || !TEST.matcher(each.getKey()).matches());
        }
        Due.end();
    }

    private static void runOne(Method test) throws IllegalAccessException {
        int before = Due.asked();
        try {
            test.invoke(null);
        } catch (InvocationTargetException thrown) {
            thrown.getCause().printStackTrace(System.out);
            Due.holds("nothing is thrown", false);
        }
        Due.holds("asks something", Due.asked() > before);
    }
}
