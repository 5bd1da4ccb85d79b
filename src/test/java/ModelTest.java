import java.util.Random;

/** Random runs of at most 512 calls, each answer held against the model's; and nothing may be thrown. */
public final class ModelTest {
    private static final int RUNS = 4000;
    private static final int CHANGES = 320;
    private static final int LOOKS = 112;
    private static final int[] ODD = {-1, -2, 4, 5, 6, 8, 31, 32, 51, 60, Integer.MAX_VALUE, Integer.MIN_VALUE};

    private final Random random;
    private final TallyLogs x = new TallyLogs();
    private final Model model = new Model();
    private final int[] seqs = new int[24];

    private ModelTest(long seed) {
        random = new Random(seed);
    }

    public static void main(String[] args) {
        for (int seed = 0; seed < RUNS; seed++) {
            Due.about("seed " + seed);
            new ModelTest(seed).run(seed % 4);
        }
        Due.end();
    }

    private void run(int flavour) {
        if (flavour != 0) {
            int replicas = 1 + random.nextInt(31);
            same("create", x.create(0, replicas, 1), model.create(0, replicas, 1));
        }
        for (int i = flavour != 0 ? 1 : 0; i < CHANGES; i++) {
            change(flavour);
        }
        for (int i = 0; i < LOOKS; i++) {
            look();
        }
    }

    private void same(String call, long got, long want) {
        Due.same(call, got, want);
    }

    /** Mostly a number below the bound, seldom an odd one. */
    private int near(int bound) {
        return random.nextInt(40) == 0 ? ODD[random.nextInt(ODD.length)] : random.nextInt(bound);
    }

    /** Some flavours stay on one partition, so that its logs fill and part. */
    private int partition(int flavour) {
        return flavour >= 2 && random.nextInt(10) != 0 ? 0 : near(4);
    }

    private int handle() {
        int k = random.nextInt(3);
        int generation = model.prods.get(k).generation;
        switch (random.nextInt(12)) {
            case 0: return near(20);
            case 1: return generation * 8 - 8 + k;
            default: return generation * 8 + k;
        }
    }

    private int offsetNear(int p) {
        Model.Part q = model.parts.get(p);
        Model.Log log = q == null ? null : q.lead();
        if (log == null || random.nextInt(20) == 0) {
            return near(20);
        }
        return log.start - 1 + random.nextInt(log.hw - log.start + 3 > 0 ? log.hw - log.start + 3 : 1);
    }

    private void change(int flavour) {
        int p = partition(flavour);
        int n = near(5);
        boolean yes = random.nextBoolean();
        switch (random.nextInt(flavour == 3 ? 60 : 34)) {
            case 0: create(p); break;
            case 1: same("elect " + p + yes, x.elect(p, yes), model.elect(p, yes)); break;
            case 2: elect(p); break;
            case 3: register(); break;
            case 4: case 5: begin(); break;
            case 6: case 7: finish(yes); break;
            case 8: case 9: settle(); break;
            case 10: case 11: consume(p, yes); break;
            case 12: member(); break;
            case 13: move(); break;
            case 14: tick(); break;
            case 15: case 16: same("flush " + n + p, x.flush(n, p), model.flush(n, p)); break;
            case 17: crash(n); break;
            case 18: case 19: same("restart " + n, x.restart(n), model.restart(n)); break;
            case 20: trim(p); break;
            case 21: look(); break;
            case 22: case 23: case 24: case 25: case 26: case 27:
                same("follow " + n + p, x.follow(n, p), model.follow(n, p)); break;
            default: produce(p, random.nextInt(4) == 0); break;
        }
    }

    private void create(int p) {
        int replicas = near(32);
        int min = near(4);
        same("create", x.create(p, replicas, min), model.create(p, replicas, min));
    }

    private void elect(int p) {
        if (model.state(p, 0) == -1) {
            same("elect " + p, x.elect(p, true), model.elect(p, true));
        }
    }

    private void register() {
        int k = near(3);
        same("register " + k, x.register(k), model.register(k));
    }

    private void begin() {
        int handle = handle();
        same("begin " + handle, x.begin(handle), model.begin(handle));
    }

    private void finish(boolean commit) {
        int handle = handle();
        same("finish " + handle, x.finish(handle, commit), model.finish(handle, commit));
    }

    private void settle() {
        int k = near(3);
        same("settle " + k, x.settle(k), model.settle(k));
    }

    private void consume(int p, boolean committed) {
        int offset = offsetNear(p);
        same("consume " + p + ", " + offset + committed, x.consume(p, offset, committed),
            model.consume(p, offset, committed));
        int what = near(6);
        same("seen " + what, x.seen(what), model.seen(what));
    }

    private void member() {
        int group = near(2);
        int m = near(8);
        same("member " + group + m, x.member(group, m), model.member(group, m));
    }

    private void move() {
        int group = near(2);
        int p = near(4);
        int owner = model.owner(group, p);
        same("owner " + group + p, x.owner(group, p), owner);
        int m = random.nextInt(4) == 0 ? near(8) : owner;
        Model.Grp g = model.groups.get(group);
        int round = g == null || random.nextInt(8) == 0 ? near(9) : g.round;
        int offset = near(100);
        same("move", x.move(group, m, round, p, offset), model.move(group, m, round, p, offset));
        same("position", x.position(group, p), model.position(group, p));
    }

    private void tick() {
        int n = random.nextInt(3) == 0 ? near(60) : near(6);
        same("tick " + n, x.tick(n), model.tick(n));
    }

    private void crash(int n) {
        int keep = random.nextInt(8) == 0 ? ODD[random.nextInt(ODD.length)] : random.nextInt(6);
        same("crash " + n + ", " + keep, x.crash(n, keep), model.crash(n, keep));
    }

    private void trim(int p) {
        int offset = offsetNear(p);
        same("trim " + p + ", " + offset, x.trim(p, offset), model.trim(p, offset));
    }

    private void produce(int p, boolean all) {
        int handle = random.nextInt(3) == 0 ? -1 : handle();
        int at = handle < 0 || handle % 8 > 5 || p < 0 || p > 3 ? -1 : handle % 8 * 4 + p;
        int seq = at < 0 || random.nextInt(6) == 0 ? near(4) : seqs[at];
        int key = random.nextInt();
        int value = random.nextInt();
        int want = model.produce(p, handle, seq, key, value, all);
        same("produce " + p + ", " + handle + ", " + seq + all, x.produce(p, handle, seq, key, value, all), want);
        if (at >= 0) {
            seqs[at] = want >= 0 ? seq + 1 : want == Model.ORDER ? 0 : seqs[at];
        }
    }

    private void look() {
        int p = random.nextInt(3) == 0 ? near(4) : 0;
        int n = near(5);
        int what = near(8);
        switch (random.nextInt(6)) {
            case 0: case 1:
                same("log " + n + p + what, x.log(n, p, what), model.log(n, p, what)); break;
            case 2: case 3:
                int offset = Math.max(0, model.log(n, p, 0)) + near(20);
                same("record", x.record(n, p, offset, what), model.record(n, p, offset, what)); break;
            case 4: same("state " + p + what, x.state(p, what), model.state(p, what)); break;
            default: same("count " + what, x.count(what), model.count(what)); break;
        }
    }
}
