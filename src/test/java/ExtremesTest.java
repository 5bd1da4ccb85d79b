import java.lang.reflect.InvocationTargetException;
import java.lang.reflect.Method;
import java.lang.reflect.Modifier;
import java.util.Arrays;

/** Each argument of each call runs over odd numbers, the ends of int among them: all answers are the model's. */
public final class ExtremesTest extends Steps {
    private static final int[] ODD = {
        MIN, MIN + 1, MIN + 7, MIN + 8, -65536, -61, -60, -33, -32, -31, -9, -8, -7, -6, -5, -4, -3, -2, -1,
        0, 1, 2, 3, 4, 5, 6, 7, 8, 9, 10, 11, 31, 32, 33, 49, 50, 51, 59, 60, 61, 65536, MAX - 8, MAX - 7, MAX - 2,
        MAX - 1, MAX,
    };
    private static final int[] ORDINARY = {0, 1, 3};
    private static final int MOST_CALLS = 512;

    private TallyLogs x;
    private Model model;
    private int calls;

    public static void main(String[] args) throws ReflectiveOperationException {
        int asked = 0;
        for (Method method : TallyLogs.class.getDeclaredMethods()) {
            if (Modifier.isPublic(method.getModifiers())) {
                for (int scene = 0; scene < 5; scene++) {
                    Due.about("scene " + scene);
                    new ExtremesTest().sweep(method, scene);
                }
                asked++;
            }
        }
        Due.same("calls of the face", asked, 24);
        Due.end();
    }

    private void sweep(Method method, int scene) throws ReflectiveOperationException {
        Class<?>[] types = method.getParameterTypes();
        Object[] args = new Object[types.length];
        for (int odd = 0; odd < types.length; odd++) {
            begin(scene);
            vary(method, scene, args, 0, odd);
        }
    }

    /** Fills the arguments from one place on in all ways, and asks. */
    private void vary(Method method, int scene, Object[] args, int place, int odd)
            throws ReflectiveOperationException {
        if (place == args.length) {
            if (calls >= MOST_CALLS) {
                begin(scene);
            }
            ask(method, args);
            return;
        }
        if (method.getParameterTypes()[place] == boolean.class) {
            for (boolean value : new boolean[] {false, true}) {
                args[place] = value;
                vary(method, scene, args, place + 1, odd);
            }
            return;
        }
        for (int value : place == odd ? ODD : ORDINARY) {
            args[place] = value;
            vary(method, scene, args, place + 1, odd);
        }
    }

    private void ask(Method method, Object[] args) throws ReflectiveOperationException {
        Method twin = Model.class.getDeclaredMethod(method.getName(), method.getParameterTypes());
        String call = method.getName() + Arrays.toString(args);
        calls++;
        try {
            long want = ((Number) twin.invoke(model, args)).longValue();
            Due.same(call, ((Number) method.invoke(x, args)).longValue(), want);
        } catch (InvocationTargetException thrown) {
            Due.holds(call + " throws nothing, but " + thrown.getCause(), false);
        }
    }

    private void begin(int scene) throws ReflectiveOperationException {
        x = new TallyLogs();
        model = new Model();
        calls = 0;
        if (scene > 0) {
            call("create", 0, 7, 2);
            call("create", 3, -1, 5);
            call("register", 0);
            call("register", 5);
            call("member", 0, 0);
            call("member", 0, 3);
        }
        if (scene == 2) {
            fill(ROOM);
        }
        if (scene > 2) {
            fill(8);
            call("begin", 0);
            call("produce", 0, 0, 0, 5, 6, false);
            call("tick", 11);
            call("trim", 0, 3);
            call("consume", 0, 3, false);
        }
        if (scene == 4) {
            call("crash", 0, 1);
            call("register", 0);
        }
    }

    private void fill(int many) throws ReflectiveOperationException {
        for (int i = 0; i < many; i++) {
            call("produce", 0, -1, 0, i, i, false);
        }
        call("follow", 1, 0);
        call("flush", 1, 0);
    }

    private void call(String name, Object... args) throws ReflectiveOperationException {
        for (Method method : TallyLogs.class.getDeclaredMethods()) {
            if (method.getName().equals(name)) {
                ask(method, args);
            }
        }
    }
}
