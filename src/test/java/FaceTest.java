import java.lang.reflect.Constructor;
import java.lang.reflect.Field;
import java.lang.reflect.Method;
import java.lang.reflect.Modifier;
import java.util.Set;
import java.util.TreeSet;

/** The class shows the constants, the constructor and the methods of the document, and nothing else. */
public final class FaceTest {
    private static final String[] FACE = {
        "int create(int,int,int)", "int elect(int,boolean)", "int register(int)",
        "int produce(int,int,int,int,int,boolean)", "int safe(int,int)", "int follow(int,int)",
        "int begin(int)", "int finish(int,boolean)", "int settle(int)", "int consume(int,int,boolean)",
        "int seen(int)", "int member(int,int)", "int owner(int,int)", "int move(int,int,int,int,int)",
        "int position(int,int)", "int tick(int)", "int flush(int,int)", "int crash(int,int)",
        "int restart(int)", "int trim(int,int)", "int log(int,int,int)", "long record(int,int,int,int)",
        "int state(int,int)", "int count(int)",
    };
    private static final String[] CONSTANTS = {"REFUSED", "NONE", "FULL", "WRONG", "FEW", "ORDER"};

    public static void main(String[] args) throws IllegalAccessException {
        Due.about("face");
        Class<TallyLogs> face = TallyLogs.class;
        Due.holds("public and final", face.getModifiers() == (Modifier.PUBLIC | Modifier.FINAL));
        Due.holds("no class above it", face.getSuperclass() == Object.class && face.getInterfaces().length == 0);
        methods(face);
        constants(face);
        Constructor<?>[] made = face.getDeclaredConstructors();
        Due.same("constructors", made.length, 1);
        Due.holds("constructor", Modifier.isPublic(made[0].getModifiers()) && made[0].getParameterCount() == 0);
        for (Class<?> inside : face.getDeclaredClasses()) {
            Due.holds(inside + " is static", Modifier.isStatic(inside.getModifiers()));
            Due.holds(inside + " is hidden", (inside.getModifiers() & (Modifier.PUBLIC | Modifier.PROTECTED)) == 0);
        }
        Due.end();
    }

    private static void methods(Class<?> face) {
        Set<String> due = new TreeSet<>(Set.of(FACE));
        Set<String> names = new TreeSet<>();
        for (String text : FACE) {
            names.add(text.substring(text.indexOf(' ') + 1, text.indexOf('(')));
        }
        for (Method method : face.getDeclaredMethods()) {
            if (Modifier.isPrivate(method.getModifiers())) {
                Due.holds(method + " has a name of its own", !names.contains(method.getName()));
                continue;
            }
            Due.holds(method + " is on the face", due.remove(textOf(method)));
            Due.same(method + " is public alone", method.getModifiers(), Modifier.PUBLIC);
        }
        Due.holds("missing: " + due, due.isEmpty());
    }

    private static String textOf(Method method) {
        StringBuilder text = new StringBuilder(method.getReturnType() + " " + method.getName() + "(");
        for (Class<?> type : method.getParameterTypes()) {
            text.append(text.charAt(text.length() - 1) == '(' ? "" : ",").append(type);
        }
        return text.append(')').toString();
    }

    private static void constants(Class<?> face) throws IllegalAccessException {
        Set<String> due = new TreeSet<>(Set.of(CONSTANTS));
        for (Field field : face.getDeclaredFields()) {
            int is = field.getModifiers();
            Due.holds(field + " is final if static", !Modifier.isStatic(is) || Modifier.isFinal(is));
            if (Modifier.isPrivate(is)) {
                continue;
            }
            Due.holds(field + " is on the face", due.remove(field.getName()) && field.getType() == int.class);
            Due.same(field + " is a public constant", is, Modifier.PUBLIC | Modifier.STATIC | Modifier.FINAL);
        }
        Due.holds("missing: " + due, due.isEmpty());
        for (int i = 0; i < CONSTANTS.length; i++) {
            Due.same(CONSTANTS[i], valueOf(face, CONSTANTS[i]), -1 - i);
        }
    }

    private static int valueOf(Class<?> face, String name) throws IllegalAccessException {
        for (Field field : face.getFields()) {
            if (field.getName().equals(name)) {
                return field.getInt(null);
            }
        }
        return 0;
    }
}
