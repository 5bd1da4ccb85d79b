import java.util.List;

/** What the tests have in common: numbers, steps towards a state, and looks at it. */
abstract class Steps {
    static final int MAX = Integer.MAX_VALUE;
    static final int MIN = Integer.MIN_VALUE;
    static final int REFUSED = TallyLogs.REFUSED;
    static final int NONE = TallyLogs.NONE;
    static final int FULL = TallyLogs.FULL;
    static final int WRONG = TallyLogs.WRONG;
    static final int FEW = TallyLogs.FEW;
    static final int ORDER = TallyLogs.ORDER;
    static final long NO_RECORD = 1L << 40;
    static final int ROOM = 60;

    /** The first number on either side of 0 to 3, and the ends of int. */
    static final int[] NOT_0_TO_3 = {MIN, -1, 4, MAX};
    static final int[] NOT_0_TO_4 = {MIN, -1, 5, MAX};
    static final int[] NOT_0_TO_5 = {MIN, -1, 6, MAX};
    static final int[] NOT_0_TO_7 = {MIN, -1, 8, MAX};
    /** What is no handle of a producer: below 0, or the numbers that 6 and 7 would have. */
    static final int[] NO_HANDLES = {MIN, -9, -8, -2, 6, 7, 14, 15, MAX - 1, MAX};

    /** Calls that bring a new object to a state. */
    interface Scene {
        void on(TallyLogs x);
    }

    /** One call and its answer. */
    interface Call {
        long on(TallyLogs x);
    }

    static TallyLogs made(Scene scene) {
        TallyLogs x = new TallyLogs();
        scene.on(x);
        return x;
    }

    static int data(TallyLogs x, int p) {
        return x.produce(p, -1, 0, 0, 0, false);
    }

    static void produceMany(TallyLogs x, int p, int many) {
        for (int i = 0; i < many; i++) {
            data(x, p);
        }
    }

    /** Follows until there is nothing to get, and once more, so that the leader knows it and the HW is told. */
    static void catchUp(TallyLogs x, int n, int p) {
        for (int i = 0; i < ROOM && x.follow(n, p) > 0; i++) {
            continue;
        }
        x.follow(n, p);
    }

    static void dueLog(TallyLogs x, int n, int p, int... want) {
        String[] names = {"START", "END", "HW", "FLUSHED", "KNOWN", "CAUGHT"};
        for (int what = 0; what < want.length; what++) {
            Due.same("log(" + n + ", " + p + ") " + names[what], x.log(n, p, what), want[what]);
        }
    }

    static void dueState(TallyLogs x, int p, int... want) {
        String[] names = {"LEADER", "EPOCH", "IN STEP", "first open"};
        for (int what = 0; what < want.length; what++) {
            Due.same("state(" + p + ") " + names[what], x.state(p, what), want[what]);
        }
    }

    static void dueSeen(TallyLogs x, int... want) {
        for (int what = 0; what < want.length; what++) {
            Due.same("seen(" + what + ")", x.seen(what), want[what]);
        }
    }

    static void dueRecord(TallyLogs x, int n, int p, int offset, long... want) {
        for (int what = 0; what < want.length; what++) {
            Due.same("record(" + n + ", " + p + ", " + offset + ", " + what + ")", x.record(n, p, offset, what),
                want[what]);
        }
    }

    /** The call answers what is due, and leaves the object like a twin that never got it. */
    static void untouched(String call, Scene scene, Call asked, long want) {
        TallyLogs x = made(scene);
        TallyLogs twin = made(scene);
        Due.same(call, asked.on(x), want);
        List<Long> got = Look.at(x);
        List<Long> due = Look.at(twin);
        Due.same(call + ": looks", got.size(), due.size());
        for (int i = 0; i < got.size() && i < due.size(); i++) {
            Due.same(call + ": look " + i + " afterwards", got.get(i), due.get(i));
        }
    }
}
