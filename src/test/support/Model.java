import java.util.ArrayList;
import java.util.List;
import java.util.TreeMap;
import java.util.TreeSet;

/** The document told a second time, with sets and maps, to hold the answers of TallyLogs against. */
final class Model {
    static final int REFUSED = -1, NONE = -2, FULL = -3, WRONG = -4, FEW = -5, ORDER = -6;

    record Rec(int epoch, int kind, int producer, int generation, int seq, int key, int value, boolean bound) {
    }

    static final class Log {
        final TreeMap<Integer, Rec> recs = new TreeMap<>();
        int start, end, hw, flushed, known, caught;
    }

    static final class Part {
        final TreeMap<Integer, Log> logs = new TreeMap<>();
        final TreeSet<Integer> inStep = new TreeSet<>();
        Integer leader;
        int epoch, min;

        Log lead() {
            return leader == null ? null : logs.get(leader);
        }

        int known(int n) {
            return leader != null && leader == n ? lead().end : logs.get(n).known;
        }

        void rise() {
            if (leader == null) {
                return;
            }
            int least = inStep.stream().mapToInt(this::known).min().orElse(-1);
            if (least > lead().hw) {
                lead().hw = least;
            }
        }
    }

    static final class Prod {
        int generation = -1, txn = -1;
        String mode = "FREE";
        boolean commit;
        TreeSet<Integer> left = new TreeSet<>();
    }

    static final class Grp {
        final TreeSet<Integer> members = new TreeSet<>();
        final TreeMap<Integer, Integer> positions = new TreeMap<>();
        int round;
    }

    final TreeSet<Integer> up = new TreeSet<>(List.of(0, 1, 2, 3, 4));
    final TreeMap<Integer, Part> parts = new TreeMap<>();
    final TreeMap<Integer, Prod> prods = new TreeMap<>();
    final TreeMap<Integer, Grp> groups = new TreeMap<>();
    int now;
    Rec seen;

    Model() {
        for (int k = 0; k <= 5; k++) {
            prods.put(k, new Prod());
        }
        for (int g = 0; g <= 3; g++) {
            groups.put(g, new Grp());
        }
    }

    int create(int p, int replicas, int min) {
        Part q = new Part();
        for (int n = 0; n < 5; n++) {
            if ((replicas & (1 << n)) != 0) {
                Log log = new Log();
                log.caught = now;
                q.logs.put(n, log);
                if (up.contains(n)) {
                    q.inStep.add(n);
                }
            }
        }
        if (p < 0 || p > 3 || parts.containsKey(p) || min < 1 || min > q.logs.size()) {
            return REFUSED;
        }
        if (q.inStep.isEmpty()) {
            return NONE;
        }
        q.min = min;
        q.leader = q.inStep.first();
        parts.put(p, q);
        return q.leader;
    }

    int elect(int p, boolean unclean) {
        Part q = parts.get(p);
        if (q == null) {
            return REFUSED;
        }
        TreeSet<Integer> can = new TreeSet<>(q.inStep);
        can.retainAll(up);
        if (can.isEmpty() && unclean) {
            can.addAll(q.logs.keySet());
            can.retainAll(up);
            if (!can.isEmpty()) {
                q.inStep.clear();
                q.inStep.add(can.first());
            }
        }
        if (can.isEmpty()) {
            return NONE;
        }
        q.leader = can.first();
        q.epoch++;
        q.logs.forEach((n, log) -> {
            log.caught = now;
            log.known = n.equals(q.leader) ? log.known : -1;
        });
        q.rise();
        return q.leader;
    }

    int register(int k) {
        Prod b = prods.get(k);
        if (b == null) {
            return REFUSED;
        }
        b.generation++;
        if (b.mode.equals("OPEN")) {
            b.mode = "ENDING";
            b.commit = false;
        }
        return 8 * b.generation + k;
    }

    private Prod of(int handle) {
        return handle < 0 ? null : prods.get(handle & 7);
    }

    int produce(int p, int handle, int seq, int key, int value, boolean all) {
        Part q = parts.get(p);
        Prod b = of(handle);
        if (q == null || (handle != -1 && b == null)) {
            return REFUSED;
        }
        Log log = q.lead();
        if (log == null) {
            return NONE;
        }
        if (b != null && (b.generation != handle >> 3 || b.mode.equals("ENDING"))) {
            return WRONG;
        }
        if (all && q.inStep.size() < q.min) {
            return FEW;
        }
        int k = b == null ? -1 : handle & 7;
        if (b != null) {
            int last = -1;
            for (int at : log.recs.keySet()) {
                Rec r = log.recs.get(at);
                if (r.kind == 0 && r.producer == k && r.generation == b.generation) {
                    if (r.seq == seq) {
                        return at;
                    }
                    last = r.seq;
                }
            }
            if (seq != last + 1) {
                return ORDER;
            }
        }
        if (log.recs.size() == 60) {
            return FULL;
        }
        boolean bound = b != null && b.mode.equals("OPEN");
        log.recs.put(log.end, b == null ? new Rec(q.epoch, 0, -1, -1, -1, key, value, false)
            : new Rec(q.epoch, 0, k, b.generation, seq, key, value, bound));
        if (bound) {
            b.left.add(p);
        }
        log.end++;
        q.rise();
        return log.end - 1;
    }

    int safe(int p, int offset) {
        Part q = parts.get(p);
        return q == null ? REFUSED : q.leader == null ? NONE : offset < q.lead().hw ? 1 : 0;
    }

    int follow(int n, int p) {
        Part q = parts.get(p);
        if (q == null || !q.logs.containsKey(n) || !up.contains(n) || (q.leader != null && q.leader == n)) {
            return REFUSED;
        }
        if (q.leader == null) {
            return NONE;
        }
        Log own = q.logs.get(n);
        Log lead = q.lead();
        if (own.end < lead.start) {
            own.recs.clear();
            own.start = lead.start;
            own.end = lead.start;
        }
        for (int at : new ArrayList<>(own.recs.keySet())) {
            Rec theirs = lead.recs.get(at);
            if (at >= lead.start && (theirs == null || theirs.epoch != own.recs.get(at).epoch)) {
                own.recs.tailMap(at).clear();
                own.end = at;
                break;
            }
        }
        own.flushed = Math.min(own.flushed, own.end);
        own.known = own.end;
        if (own.end == lead.end) {
            own.caught = now;
        }
        if (own.end >= lead.hw) {
            q.inStep.add(n);
        }
        q.rise();
        int got = 0;
        for (; got < 5 && lead.recs.containsKey(own.end); got++) {
            own.recs.put(own.end, lead.recs.get(own.end));
            own.end++;
        }
        own.recs.headMap(lead.start).clear();
        own.start = Math.max(own.start, lead.start);
        own.flushed = Math.max(own.flushed, own.start);
        own.hw = Math.min(lead.hw, own.end);
        return got;
    }

    int begin(int handle) {
        Prod b = of(handle);
        if (b == null) {
            return REFUSED;
        }
        if (b.generation != handle >> 3 || !b.mode.equals("FREE")) {
            return WRONG;
        }
        b.mode = "OPEN";
        b.txn = b.generation;
        b.left.clear();
        return 0;
    }

    int finish(int handle, boolean commit) {
        Prod b = of(handle);
        if (b == null) {
            return REFUSED;
        }
        if (b.generation != handle >> 3 || !b.mode.equals("OPEN")) {
            return WRONG;
        }
        b.mode = "ENDING";
        b.commit = commit;
        return b.left.size();
    }

    int settle(int k) {
        Prod b = prods.get(k);
        if (b == null) {
            return REFUSED;
        }
        if (!b.mode.equals("ENDING")) {
            return NONE;
        }
        for (int p : new ArrayList<>(b.left)) {
            Part q = parts.get(p);
            Log log = q.lead();
            if (log != null && log.recs.size() < 60) {
                log.recs.put(log.end++, new Rec(q.epoch, b.commit ? 1 : 2, k, b.txn, -1, 0, 0, false));
                q.rise();
                b.left.remove(p);
            }
        }
        if (b.left.isEmpty()) {
            b.mode = "FREE";
        }
        return b.left.size();
    }

    /** 1 or 2 as its end is a commit or an abort, 0 without. */
    private static int fate(Log log, int at) {
        Rec data = log.recs.get(at);
        return log.recs.tailMap(at + 1).values().stream()
            .filter(r -> r.kind != 0 && r.producer == data.producer && r.generation == data.generation)
            .mapToInt(Rec::kind).findFirst().orElse(0);
    }

    private static int open(Log log) {
        return log.recs.keySet().stream().filter(at -> log.recs.get(at).bound && fate(log, at) == 0)
            .findFirst().orElse(log.end);
    }

    int consume(int p, int offset, boolean committed) {
        Part q = parts.get(p);
        if (q == null) {
            return REFUSED;
        }
        Log log = q.lead();
        if (log == null) {
            return NONE;
        }
        if (offset < log.start || offset > log.hw) {
            return REFUSED;
        }
        int open = open(log);
        for (int at : log.recs.subMap(offset, log.hw).keySet()) {
            Rec r = log.recs.get(at);
            boolean hidden = committed && (at >= open || (r.bound && fate(log, at) == 2));
            if (r.kind == 0 && !hidden) {
                seen = r;
                return at;
            }
        }
        return NONE;
    }

    int seen(int what) {
        int[] of = seen == null ? new int[0]
            : new int[] {seen.epoch, seen.producer, seen.generation, seen.seq, seen.key, seen.value};
        return what >= 0 && what < of.length ? of[what] : 0;
    }

    int member(int group, int m) {
        Grp g = groups.get(group);
        if (g == null || m < 0 || m > 7) {
            return REFUSED;
        }
        if (!g.members.remove(m)) {
            g.members.add(m);
        }
        return ++g.round;
    }

    int owner(int group, int p) {
        Grp g = groups.get(group);
        if (g == null || !parts.containsKey(p)) {
            return REFUSED;
        }
        int k = parts.headMap(p).size();
        return g.members.isEmpty() ? NONE : new ArrayList<>(g.members).get(k % g.members.size());
    }

    int move(int group, int m, int round, int p, int offset) {
        int owner = owner(group, p);
        if (owner == REFUSED || offset < 0) {
            return REFUSED;
        }
        Grp g = groups.get(group);
        if (!g.members.contains(m) || owner != m || g.round != round) {
            return WRONG;
        }
        g.positions.put(p, offset);
        return 0;
    }

    int position(int group, int p) {
        return owner(group, p) == REFUSED ? REFUSED : groups.get(group).positions.getOrDefault(p, 0);
    }

    int tick(int n) {
        if (n < 1 || n > 50) {
            return REFUSED;
        }
        now += n;
        int were = 0;
        for (Part q : parts.values()) {
            if (q.leader != null) {
                int before = q.inStep.size();
                q.inStep.removeIf(i -> !i.equals(q.leader) && q.logs.get(i).caught + 10 < now);
                were += before - q.inStep.size();
                q.rise();
            }
        }
        return were;
    }

    private Log logOf(int n, int p) {
        return parts.containsKey(p) ? parts.get(p).logs.get(n) : null;
    }

    int flush(int n, int p) {
        Log log = logOf(n, p);
        if (log == null || !up.contains(n)) {
            return REFUSED;
        }
        int were = log.recs.tailMap(log.flushed).size();
        log.flushed = log.end;
        return were;
    }

    int crash(int n, int keep) {
        if (!up.contains(n) || keep < 0) {
            return REFUSED;
        }
        up.remove(n);
        for (Part q : parts.values()) {
            Log log = q.logs.get(n);
            if (log == null) {
                continue;
            }
            while (log.end > (long) log.flushed + keep) {
                log.recs.remove(--log.end);
            }
            log.hw = Math.min(log.hw, log.end);
            if (q.leader != null && q.leader == n) {
                q.leader = null;
            }
            if (q.inStep.contains(n) && q.inStep.size() > 1) {
                q.inStep.remove(n);
            }
            q.rise();
        }
        return (int) parts.values().stream().filter(q -> q.leader == null).count();
    }

    int restart(int n) {
        if (n < 0 || n > 4 || !up.add(n)) {
            return REFUSED;
        }
        for (Part q : parts.values()) {
            if (q.logs.containsKey(n)) {
                q.logs.get(n).known = -1;
            }
        }
        return 0;
    }

    int trim(int p, int offset) {
        Part q = parts.get(p);
        if (q == null) {
            return REFUSED;
        }
        Log log = q.lead();
        if (log == null) {
            return NONE;
        }
        if (offset < log.start || offset > log.hw) {
            return REFUSED;
        }
        log.recs.headMap(offset).clear();
        log.start = offset;
        log.flushed = Math.max(log.flushed, offset);
        return log.recs.size();
    }

    int log(int n, int p, int what) {
        Log log = logOf(n, p);
        if (log == null || what < 0 || what > 5) {
            return REFUSED;
        }
        return new int[] {log.start, log.end, log.hw, log.flushed, parts.get(p).known(n), log.caught}[what];
    }

    long record(int n, int p, int offset, int what) {
        Log log = logOf(n, p);
        Rec r = log == null ? null : log.recs.get(offset);
        if (r == null || what < 0 || what > 6) {
            return 1L << 40;
        }
        return new int[] {r.epoch, r.kind, r.producer, r.seq, r.key, r.value, r.bound ? 1 : 0}[what];
    }

    int state(int p, int what) {
        Part q = parts.get(p);
        if (q == null || what < 0 || what > 3) {
            return REFUSED;
        }
        int bits = q.inStep.stream().mapToInt(n -> 1 << n).sum();
        return new int[] {q.leader == null ? -1 : q.leader, q.epoch, bits, q.leader == null ? -1 : open(q.lead())}[what];
    }

    int count(int what) {
        if (what < 0 || what > 7) {
            return REFUSED;
        }
        return what == 0 ? now : what == 1 ? up.stream().mapToInt(n -> 1 << n).sum()
            : List.of("FREE", "OPEN", "ENDING").indexOf(prods.get(what - 2).mode);
    }
}
