import java.io.IOException;
import java.lang.reflect.Executable;
import java.lang.reflect.Field;
import java.lang.reflect.Method;
import java.lang.reflect.Modifier;
import java.nio.file.Files;
import java.nio.file.Path;
import java.util.ArrayList;
import java.util.List;
import java.util.Set;
import java.util.regex.Matcher;
import java.util.regex.Pattern;

/** The class keeps to the rules of LANGUAGE.md, as far as its text and its shape can tell. */
public final class LanguageTest {
    private static final Path SOURCE = Path.of("src/main/java/TallyLogs.java");

    /** What rules 2, 4, 6 and 13 leave out, and what this class needs none of: it throws and catches nothing. */
    private static final String[] LEFT_OUT = {
        "\\bimport\\b", "\\bpackage\\b", "\\btry\\b", "\\bcatch\\b", "\\bfinally\\b", "\\bthrows?\\b",
        "\\bsynchronized\\b", "\\bassert\\b", "\\bnative\\b", "\\bvolatile\\b", "\\bstatic\\s*\\{", "->", "::", "\"",
        "\\bSystem\\b", "\\bThread\\b", "\\bequals\\b", "\\bhashCode\\b", "\\btoString\\b", "\\bgetClass\\b",
    };
    private static final Set<String> LIBRARY = Set.of("Integer.bitCount", "Math.min", "Math.max", "Math.floorMod");
    private static final int MOST_CLASSES = 12;
    private static final int MOST_FIELDS = 20;
    private static final int MOST_PARAMETERS = 7;
    private static final int MOST_LINES = 60;

    public static void main(String[] args) throws IOException {
        Due.about("LANGUAGE.md");
        String code = withoutComments(Files.readString(SOURCE));
        words(code);
        lengths(code);
        shape();
        Due.end();
    }

    private static String withoutComments(String text) {
        return text.replaceAll("(?s)/\\*.*?\\*/", "").replaceAll("//[^\n]*", "");
    }

    private static void words(String code) {
        for (String each : LEFT_OUT) {
            Due.holds("rules 2, 4, 6, 13: no " + each, !Pattern.compile(each).matcher(code).find());
        }
        Matcher use = Pattern.compile("\\b[A-Z]\\w*\\.\\w+").matcher(code);
        while (use.find()) {
            Due.holds("rule 4: " + use.group(), LIBRARY.contains(use.group()));
        }
        Due.holds("rule 3: characters", code.chars().allMatch(c -> c < 128));
        Due.holds("rule 10: loops with a bound", !Pattern.compile("while \\(true\\)|for \\(;;\\)").matcher(code).find());
    }

    /** A body's lines: from a line that opens it to the line of the same indent that closes it. */
    private static void lengths(String code) {
        String[] lines = code.split("\n");
        for (int from = 0; from < lines.length; from++) {
            if (!lines[from].matches(" +[\\w\\[\\]<> ]+\\([^;]*\\) \\{") || lines[from].matches(" +(if|for|while|switch) .*")) {
                continue;
            }
            String close = lines[from].replaceAll("\\S.*", "}");
            int to = from;
            while (to < lines.length && !lines[to].equals(close)) {
                to++;
            }
            Due.holds("rule 11: lines of" + lines[from], to - from <= MOST_LINES);
        }
    }

    private static void shape() {
        List<Class<?>> classes = new ArrayList<>(List.of(TallyLogs.class.getDeclaredClasses()));
        classes.add(TallyLogs.class);
        Due.holds("rule 11: classes", classes.size() <= MOST_CLASSES);
        for (Class<?> each : classes) {
            int fields = 0;
            for (Field field : each.getDeclaredFields()) {
                boolean shared = Modifier.isStatic(field.getModifiers());
                fields += shared ? 0 : 1;
                Due.holds("rule 5: " + field, !shared || Modifier.isFinal(field.getModifiers()));
                Due.holds("rule 5: " + field, !shared || field.getType().isPrimitive());
            }
            Due.holds("rule 11: fields of " + each, fields <= MOST_FIELDS);
            List<Executable> bodies = new ArrayList<>(List.of(each.getDeclaredConstructors()));
            for (Method method : each.getDeclaredMethods()) {
                bodies.add(method);
                Due.holds("rule 1: " + method, each == TallyLogs.class || !isOnTheFace(method.getName()));
            }
            for (Executable body : bodies) {
                Due.holds("rule 11: " + body, body.getParameterCount() <= MOST_PARAMETERS);
            }
        }
    }

    private static boolean isOnTheFace(String name) {
        for (Method method : TallyLogs.class.getDeclaredMethods()) {
            if (Modifier.isPublic(method.getModifiers()) && method.getName().equals(name)) {
                return true;
            }
        }
        return false;
    }
}
