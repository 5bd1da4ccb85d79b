/** A cluster of five nodes that keeps logs on several of them; DOC.md says what each call does. */
public final class TallyLogs {
    public static final int REFUSED = -1, NONE = -2, FULL = -3, WRONG = -4, FEW = -5, ORDER = -6;

    private static final int NODES = 5;
    private static final int ALL_NODES = 31;
    private static final int PARTITIONS = 4;
    private static final int PRODUCERS = 6;
    private static final int HANDLE_STEP = 8;
    private static final int GROUPS = 4;
    private static final int MEMBERS = 8;
    private static final int ROOM = 60;
    private static final int MOST_FETCHED = 5;
    private static final int MOST_LAG = 10;
    private static final int LONGEST_TICK = 50;
    private static final long NO_RECORD = 1099511627776L;

    /** No leader, no producer, no generation, no seq, no known end, no offset: all of them are -1. */
    private static final int ABSENT = -1;

    private static final int DATA = 0;
    private static final int COMMIT = 1;
    private static final int ABORT = 2;

    private static final int FREE = 0;
    private static final int OPEN = 1;
    private static final int ENDING = 2;

    private final Partition[] partitions = new Partition[PARTITIONS];
    private final Producer[] producers = new Producer[PRODUCERS];
    private final Group[] groups = new Group[GROUPS];
    private int up = ALL_NODES;
    private int now = 0;
    private Entry lastSeen = null;

    public TallyLogs() {
        for (int k = 0; k < PRODUCERS; k++) {
            producers[k] = new Producer(k);
        }
        for (int g = 0; g < GROUPS; g++) {
            groups[g] = new Group();
        }
    }

    // ---- partitions and their leaders ----

    public int create(int p, int replicas, int min) {
        int mask = replicas & ALL_NODES;
        if (p < 0 || p >= PARTITIONS || partitions[p] != null) {
            return REFUSED;
        }
        if (min < 1 || min > Integer.bitCount(mask)) {
            return REFUSED;
        }
        if ((mask & up) == 0) {
            return NONE;
        }
        Partition made = new Partition(mask, mask & up, min, now);
        partitions[p] = made;
        return made.leader;
    }

    public int elect(int p, boolean unclean) {
        Partition part = partitionAt(p);
        if (part == null) {
            return REFUSED;
        }
        int next = leastOf(part.inStep & up);
        if (next == ABSENT && unclean) {
            next = leastOf(part.mask & up);
            if (next != ABSENT) {
                part.inStep = 1 << next;
            }
        }
        if (next == ABSENT) {
            return NONE;
        }
        part.putLeader(next, now);
        return next;
    }

    // ---- producers and their transactions ----

    public int register(int k) {
        Producer by = producerAt(k);
        if (by == null) {
            return REFUSED;
        }
        by.generation++;
        if (by.mode == OPEN) {
            by.startEnding(false);
        }
        return by.generation * HANDLE_STEP + k;
    }

    public int produce(int p, int handle, int seq, int key, int value, boolean all) {
        Partition part = partitionAt(p);
        Producer by = producerOf(handle);
        if (part == null || (by == null && handle != ABSENT)) {
            return REFUSED;
        }
        Replica lead = part.leading();
        if (lead == null) {
            return NONE;
        }
        if (by != null && (by.generation != generationOf(handle) || by.mode == ENDING)) {
            return WRONG;
        }
        if (all && Integer.bitCount(part.inStep) < part.min) {
            return FEW;
        }
        if (by != null) {
            int earlier = lead.offsetOf(by.number, by.generation, seq);
            if (earlier != ABSENT) {
                return earlier;
            }
            if (seq != lead.nextSeq(by.number, by.generation)) {
                return ORDER;
            }
        }
        if (lead.isFull()) {
            return FULL;
        }
        lead.append(newData(part.epoch, by, seq, key, value));
        if (by != null && by.mode == OPEN) {
            by.left |= 1 << p;
        }
        part.raiseHw();
        return lead.end - 1;
    }

    public int begin(int handle) {
        Producer by = producerOf(handle);
        if (by == null) {
            return REFUSED;
        }
        if (by.generation != generationOf(handle) || by.mode != FREE) {
            return WRONG;
        }
        by.open();
        return 0;
    }

    public int finish(int handle, boolean commit) {
        Producer by = producerOf(handle);
        if (by == null) {
            return REFUSED;
        }
        if (by.generation != generationOf(handle) || by.mode != OPEN) {
            return WRONG;
        }
        by.startEnding(commit);
        return Integer.bitCount(by.left);
    }

    public int settle(int k) {
        Producer by = producerAt(k);
        if (by == null) {
            return REFUSED;
        }
        if (by.mode != ENDING) {
            return NONE;
        }
        for (int p = 0; p < PARTITIONS; p++) {
            if (contains(by.left, p) && markEnd(partitions[p], by)) {
                by.left &= ~(1 << p);
            }
        }
        if (by.left == 0) {
            by.mode = FREE;
        }
        return Integer.bitCount(by.left);
    }

    // ---- followers and consumers ----

    public int safe(int p, int offset) {
        Partition part = partitionAt(p);
        if (part == null) {
            return REFUSED;
        }
        Replica lead = part.leading();
        if (lead == null) {
            return NONE;
        }
        return offset < lead.hw ? 1 : 0;
    }

    public int follow(int n, int p) {
        Partition part = partitionAt(p);
        if (part == null) {
            return REFUSED;
        }
        Replica own = part.replicaAt(n);
        if (own == null || !contains(up, n) || n == part.leader) {
            return REFUSED;
        }
        Replica lead = part.leading();
        if (lead == null) {
            return NONE;
        }
        own.agreeWith(lead);
        own.known = own.end;
        if (own.end == lead.end) {
            own.caught = now;
        }
        if (own.end >= lead.hw) {
            part.inStep |= 1 << n;
        }
        part.raiseHw();
        return own.fetchFrom(lead);
    }

    public int consume(int p, int offset, boolean committed) {
        Partition part = partitionAt(p);
        if (part == null) {
            return REFUSED;
        }
        Replica lead = part.leading();
        if (lead == null) {
            return NONE;
        }
        if (offset < lead.start || offset > lead.hw) {
            return REFUSED;
        }
        int found = lead.firstVisible(offset, committed);
        Entry entry = lead.entryAt(found);
        if (entry == null) {
            return NONE;
        }
        lastSeen = entry;
        return found;
    }

    public int seen(int what) {
        if (lastSeen == null) {
            return 0;
        }
        switch (what) {
            case 0: return lastSeen.epoch;
            case 1: return lastSeen.producer;
            case 2: return lastSeen.generation;
            case 3: return lastSeen.seq;
            case 4: return lastSeen.key;
            case 5: return lastSeen.value;
            default: return 0;
        }
    }

    // ---- groups ----

    public int member(int group, int m) {
        Group of = groupAt(group);
        if (of == null || m < 0 || m >= MEMBERS) {
            return REFUSED;
        }
        of.members ^= 1 << m;
        of.round++;
        return of.round;
    }

    public int owner(int group, int p) {
        Group of = groupAt(group);
        if (of == null || partitionAt(p) == null) {
            return REFUSED;
        }
        int m = of.memberAt(placeOf(p));
        return m == ABSENT ? NONE : m;
    }

    public int move(int group, int m, int round, int p, int offset) {
        Group of = groupAt(group);
        if (of == null || partitionAt(p) == null || offset < 0) {
            return REFUSED;
        }
        // a number that is no member's must not pass for the owner of what nobody owns
        if (m < 0 || m != of.memberAt(placeOf(p)) || round != of.round) {
            return WRONG;
        }
        of.setOffset(p, offset);
        return 0;
    }

    public int position(int group, int p) {
        Group of = groupAt(group);
        if (of == null || partitionAt(p) == null) {
            return REFUSED;
        }
        return of.offsetFor(p);
    }

    // ---- time, nodes and what they hold ----

    public int tick(int n) {
        if (n < 1 || n > LONGEST_TICK) {
            return REFUSED;
        }
        now += n;
        int late = 0;
        for (int p = 0; p < PARTITIONS; p++) {
            Partition part = partitions[p];
            if (part != null) {
                late += part.dropLate(now);
            }
        }
        return late;
    }

    public int flush(int n, int p) {
        Replica own = replicaOf(n, p);
        if (own == null || !contains(up, n)) {
            return REFUSED;
        }
        int unflushed = own.end - own.flushed;
        own.flushed = own.end;
        return unflushed;
    }

    public int crash(int n, int keep) {
        if (!contains(up, n) || keep < 0) {
            return REFUSED;
        }
        up &= ~(1 << n);
        int leaderless = 0;
        for (int p = 0; p < PARTITIONS; p++) {
            Partition part = partitions[p];
            if (part != null) {
                part.lose(n, keep);
                leaderless += part.leader == ABSENT ? 1 : 0;
            }
        }
        return leaderless;
    }

    public int restart(int n) {
        if (n < 0 || n >= NODES || contains(up, n)) {
            return REFUSED;
        }
        up |= 1 << n;
        for (int p = 0; p < PARTITIONS; p++) {
            Replica own = replicaOf(n, p);
            if (own != null) {
                own.known = ABSENT;
            }
        }
        return 0;
    }

    public int trim(int p, int offset) {
        Partition part = partitionAt(p);
        if (part == null) {
            return REFUSED;
        }
        Replica lead = part.leading();
        if (lead == null) {
            return NONE;
        }
        if (offset < lead.start || offset > lead.hw) {
            return REFUSED;
        }
        lead.dropBefore(offset);
        return lead.held();
    }

    // ---- what can be looked at ----

    public int log(int n, int p, int what) {
        Partition part = partitionAt(p);
        Replica own = replicaOf(n, p);
        if (part == null || own == null) {
            return REFUSED;
        }
        switch (what) {
            case 0: return own.start;
            case 1: return own.end;
            case 2: return own.hw;
            case 3: return own.flushed;
            case 4: return part.knownEnd(n);
            case 5: return own.caught;
            default: return REFUSED;
        }
    }

    public long record(int n, int p, int offset, int what) {
        Replica own = replicaOf(n, p);
        Entry entry = own == null ? null : own.entryAt(offset);
        if (entry == null) {
            return NO_RECORD;
        }
        switch (what) {
            case 0: return entry.epoch;
            case 1: return entry.kind;
            case 2: return entry.producer;
            case 3: return entry.seq;
            case 4: return entry.key;
            case 5: return entry.value;
            case 6: return entry.bound ? 1 : 0;
            default: return NO_RECORD;
        }
    }

    public int state(int p, int what) {
        Partition part = partitionAt(p);
        if (part == null) {
            return REFUSED;
        }
        switch (what) {
            case 0: return part.leader;
            case 1: return part.epoch;
            case 2: return part.inStep;
            case 3: return firstOpenOf(part.leading());
            default: return REFUSED;
        }
    }

    public int count(int what) {
        if (what == 0) {
            return now;
        }
        if (what == 1) {
            return up;
        }
        if (what < 2 || what >= 2 + PRODUCERS) {
            return REFUSED;
        }
        Producer by = producerAt(what - 2);
        return by == null ? REFUSED : by.mode;
    }

    // ---- helpers of the calls ----

    private Partition partitionAt(int p) {
        return p < 0 || p >= PARTITIONS ? null : partitions[p];
    }

    private Replica replicaOf(int n, int p) {
        Partition part = partitionAt(p);
        return part == null ? null : part.replicaAt(n);
    }

    private Producer producerAt(int k) {
        return k < 0 || k >= PRODUCERS ? null : producers[k];
    }

    private Producer producerOf(int handle) {
        return handle < 0 ? null : producerAt(handle % HANDLE_STEP);
    }

    private static int generationOf(int handle) {
        return handle / HANDLE_STEP;
    }

    private Group groupAt(int group) {
        return group < 0 || group >= GROUPS ? null : groups[group];
    }

    /** How many partitions that are there come before p. */
    private int placeOf(int p) {
        int place = 0;
        for (int q = 0; q < PARTITIONS && q < p; q++) {
            place += partitions[q] == null ? 0 : 1;
        }
        return place;
    }

    private static Entry newData(int epoch, Producer by, int seq, int key, int value) {
        if (by == null) {
            return new Entry(epoch, ABSENT, ABSENT, ABSENT, key, value, false);
        }
        return new Entry(epoch, by.number, by.generation, seq, key, value, by.mode == OPEN);
    }

    /** Whether the transaction's commit or abort could be written to the partition. */
    private static boolean markEnd(Partition part, Producer by) {
        if (part == null) {
            return false;
        }
        Replica lead = part.leading();
        if (lead == null || lead.isFull()) {
            return false;
        }
        lead.append(new Entry(part.epoch, by.commits ? COMMIT : ABORT, by.number, by.boundGeneration));
        part.raiseHw();
        return true;
    }

    private static int firstOpenOf(Replica lead) {
        return lead == null ? ABSENT : lead.firstOpen();
    }

    /** Whether the bits contain i; false for an i that is no node, partition or member at all. */
    private static boolean contains(int bits, int i) {
        return i >= 0 && i < MEMBERS && (bits >> i & 1) == 1;
    }

    private static int leastOf(int bits) {
        for (int i = 0; i < MEMBERS; i++) {
            if (contains(bits, i)) {
                return i;
            }
        }
        return ABSENT;
    }

    /** A record. It never changes, so that the logs of all replicas can share it. */
    private static final class Entry {
        final int epoch;
        final int kind;
        final int producer;
        final int generation;
        final int seq;
        final int key;
        final int value;
        final boolean bound;

        Entry(int epoch, int producer, int generation, int seq, int key, int value, boolean bound) {
            this.epoch = epoch;
            this.kind = DATA;
            this.producer = producer;
            this.generation = generation;
            this.seq = seq;
            this.key = key;
            this.value = value;
            this.bound = bound;
        }

        /** A commit or an abort. */
        Entry(int epoch, int kind, int producer, int generation) {
            this.epoch = epoch;
            this.kind = kind;
            this.producer = producer;
            this.generation = generation;
            this.seq = ABSENT;
            this.key = 0;
            this.value = 0;
            this.bound = false;
        }

        boolean isDataBy(int k, int itsGeneration) {
            return kind == DATA && producer == k && generation == itsGeneration;
        }

        boolean isEndOf(Entry data) {
            return kind != DATA && producer == data.producer && generation == data.generation;
        }
    }

    /** One node's log of one partition, and what the partition's leader knows of that node. */
    private static final class Replica {
        /** Offset o stands at o modulo ROOM: no log ever holds more than ROOM records. */
        final Entry[] slots = new Entry[ROOM];
        int start = 0;
        int end = 0;
        int hw = 0;
        int flushed = 0;
        int known = 0;
        int caught;

        Replica(int now) {
            this.caught = now;
        }

        Entry entryAt(int offset) {
            return offset < start || offset >= end ? null : slots[Math.floorMod(offset, ROOM)];
        }

        int held() {
            return end - start;
        }

        boolean isFull() {
            return held() >= ROOM;
        }

        void append(Entry entry) {
            slots[Math.floorMod(end, ROOM)] = entry;
            end++;
        }

        void dropBefore(int offset) {
            start = Math.max(start, offset);
            flushed = Math.max(flushed, start);
        }

        void loseUnflushed(int keep) {
            end = flushed + Math.min(keep, end - flushed);
            hw = Math.min(hw, end);
        }

        int offsetOf(int k, int generation, int seq) {
            for (int at = start; at < end; at++) {
                Entry entry = entryAt(at);
                if (entry != null && entry.isDataBy(k, generation) && entry.seq == seq) {
                    return at;
                }
            }
            return ABSENT;
        }

        int nextSeq(int k, int generation) {
            for (int at = end - 1; at >= start; at--) {
                Entry entry = entryAt(at);
                if (entry != null && entry.isDataBy(k, generation)) {
                    return entry.seq + 1;
                }
            }
            return 0;
        }

        void agreeWith(Replica lead) {
            if (end < lead.start) {
                start = lead.start;
                end = lead.start;
            }
            // what the leader has trimmed is no disagreement
            int at = Math.max(start, lead.start);
            while (at < end && hasSameEpoch(at, lead)) {
                at++;
            }
            end = at;
            flushed = Math.min(flushed, end);
        }

        boolean hasSameEpoch(int offset, Replica lead) {
            Entry own = entryAt(offset);
            Entry theirs = lead.entryAt(offset);
            return own != null && theirs != null && own.epoch == theirs.epoch;
        }

        int fetchFrom(Replica lead) {
            // first, so that the records that come find room
            dropBefore(lead.start);
            int got = 0;
            while (got < MOST_FETCHED && end < lead.end) {
                append(lead.entryAt(end));
                got++;
            }
            hw = Math.min(lead.hw, end);
            return got;
        }

        /** The kind of the end of bound data; DATA while it has none. */
        int endKindOf(Entry data, int offset) {
            for (int at = offset + 1; at < end; at++) {
                Entry entry = entryAt(at);
                if (entry != null && entry.isEndOf(data)) {
                    return entry.kind;
                }
            }
            return DATA;
        }

        /** The offset of the first bound data without its end; the log's end if all have theirs. */
        int firstOpen() {
            for (int at = start; at < end; at++) {
                Entry entry = entryAt(at);
                if (entry != null && entry.bound && endKindOf(entry, at) == DATA) {
                    return at;
                }
            }
            return end;
        }

        int firstVisible(int from, boolean committed) {
            int limit = committed ? Math.min(hw, firstOpen()) : hw;
            for (int at = from; at < limit; at++) {
                Entry entry = entryAt(at);
                if (entry != null && entry.kind == DATA && !(committed && isAborted(entry, at))) {
                    return at;
                }
            }
            return ABSENT;
        }

        boolean isAborted(Entry data, int offset) {
            return data.bound && endKindOf(data, offset) == ABORT;
        }
    }

    /** A leader that is there is UP: a crash takes the lead away, and only nodes that are UP get it. */
    private static final class Partition {
        final int mask;
        final int min;
        final Replica[] replicas = new Replica[NODES];
        int leader;
        int epoch = 0;
        /** As bits; the leader is always among them. */
        int inStep;

        Partition(int mask, int inStep, int min, int now) {
            this.mask = mask;
            this.min = min;
            this.inStep = inStep;
            this.leader = leastOf(inStep);
            for (int n = 0; n < NODES; n++) {
                replicas[n] = contains(mask, n) ? new Replica(now) : null;
            }
        }

        Replica replicaAt(int n) {
            return n < 0 || n >= NODES ? null : replicas[n];
        }

        Replica leading() {
            return replicaAt(leader);
        }

        int knownEnd(int n) {
            Replica own = replicaAt(n);
            if (own == null) {
                return ABSENT;
            }
            return n == leader ? own.end : own.known;
        }

        void raiseHw() {
            Replica lead = leading();
            if (lead == null) {
                return;
            }
            int least = lead.end;
            for (int n = 0; n < NODES; n++) {
                if (contains(inStep, n)) {
                    least = Math.min(least, knownEnd(n));
                }
            }
            lead.hw = Math.max(lead.hw, least);
        }

        void putLeader(int next, int now) {
            leader = next;
            epoch++;
            for (int n = 0; n < NODES; n++) {
                Replica each = replicas[n];
                if (each == null) {
                    continue;
                }
                each.caught = now;
                if (n != next) {
                    each.known = ABSENT;
                }
            }
            raiseHw();
        }

        /** How many are in step no more because they were caught up too long ago. */
        int dropLate(int now) {
            if (leading() == null) {
                return 0;
            }
            int late = 0;
            for (int n = 0; n < NODES; n++) {
                Replica each = replicas[n];
                if (each != null && n != leader && contains(inStep, n) && now - each.caught > MOST_LAG) {
                    inStep &= ~(1 << n);
                    late++;
                }
            }
            raiseHw();
            return late;
        }

        void lose(int n, int keep) {
            Replica own = replicaAt(n);
            if (own == null) {
                return;
            }
            own.loseUnflushed(keep);
            if (leader == n) {
                leader = ABSENT;
            }
            int others = inStep & ~(1 << n);
            if (others != 0) {
                inStep = others;
            }
            raiseHw();
        }
    }

    private static final class Producer {
        final int number;
        int generation = ABSENT;
        int mode = FREE;
        boolean commits = false;
        /** The generation whose transaction it is: register may raise the other before it has ended. */
        int boundGeneration = ABSENT;
        /** Bits of the partitions of its transaction that have no commit or abort yet. */
        int left = 0;

        Producer(int number) {
            this.number = number;
        }

        void open() {
            mode = OPEN;
            boundGeneration = generation;
            left = 0;
        }

        void startEnding(boolean commit) {
            mode = ENDING;
            commits = commit;
        }
    }

    private static final class Group {
        int members = 0;
        int round = 0;
        final int[] offsets = new int[PARTITIONS];

        int memberAt(int place) {
            int size = Integer.bitCount(members);
            if (size == 0) {
                return ABSENT;
            }
            int before = place % size;
            for (int m = 0; m < MEMBERS; m++) {
                if (!contains(members, m)) {
                    continue;
                }
                if (before == 0) {
                    return m;
                }
                before--;
            }
            return ABSENT;
        }

        int offsetFor(int p) {
            return p < 0 || p >= PARTITIONS ? 0 : offsets[p];
        }

        void setOffset(int p, int offset) {
            if (p >= 0 && p < PARTITIONS) {
                offsets[p] = offset;
            }
        }
    }
}
