/** The boundary cases of create, elect, safe, trim and state, a test for each sentence that names one. */
public final class PartitionEdgesTest extends Steps {
    private static final Scene NEW = x -> { };

    /** Partition 0 on node 0 alone: its HW rises at once. */
    private static final Scene ALONE = x -> x.create(0, 1, 1);

    /** Partition 0 on nodes 0 and 1: 0 leads with START 2, HW 5, END 7. */
    private static final Scene TRIMMED = x -> {
        x.create(0, 3, 1);
        produceMany(x, 0, 5);
        catchUp(x, 1, 0);
        produceMany(x, 0, 2);
        x.trim(0, 2);
    };

    /** As TRIMMED, but node 0 was alone IN STEP, and is lost. */
    private static final Scene LOST = x -> {
        TRIMMED.on(x);
        x.tick(11);
        x.crash(0, 9);
    };

    public static void main(String[] args) throws IllegalAccessException {
        Suite.run(PartitionEdgesTest.class, 2, 3, 6, 21, 24);
    }

    // ---- promise 2: create ----

    static void p2RefusedIfPIsNot0To3() {
        for (int p : NOT_0_TO_3) {
            untouched("p " + p, NEW, x -> x.create(p, 31, 1), REFUSED);
        }
    }

    static void p2TakesP0To3() {
        TallyLogs x = new TallyLogs();
        for (int p = 0; p < 4; p++) {
            Due.same("create(" + p + ")", x.create(p, 31, 1), 0);
            dueState(x, p, 0, 0, 31, 0);
        }
    }

    static void p2RefusedIfPIsThere() {
        untouched("empty", ALONE, x -> x.create(0, 1, 1), REFUSED);
        untouched("others", TRIMMED, x -> x.create(0, 31, 5), REFUSED);
        untouched("without a leader", LOST, x -> x.create(0, 3, 1), REFUSED);
    }

    static void p2RefusedWithoutReplicas() {
        for (int replicas : new int[] {MIN, -32, 0, 32, 64, 1 << 30}) {
            for (int min : new int[] {MIN, -1, 0, 1, MAX}) {
                untouched("replicas " + replicas + ", min " + min, NEW, x -> x.create(0, replicas, min), REFUSED);
            }
        }
    }

    static void p2ReplicasAreTheLowestFiveBits() {
        int[] replicas = {1, 16, 31, 33, 48, -1, -31, MAX, MIN + 1};
        int[] due = {1, 16, 31, 1, 16, 31, 1, 31, 1};
        for (int i = 0; i < replicas.length; i++) {
            TallyLogs x = new TallyLogs();
            Due.same("create(3, " + replicas[i] + ")", x.create(3, replicas[i], 1), due[i] == 16 ? 4 : 0);
            Due.same("IN STEP of " + replicas[i], x.state(3, 2), due[i]);
            for (int n = 0; n < 5; n++) {
                Due.same("log of " + n, x.log(n, 3, 0), (due[i] >> n & 1) == 1 ? 0 : REFUSED);
            }
        }
    }

    static void p2RefusedIfMinIsBelow1() {
        for (int min : new int[] {MIN, -1, 0}) {
            untouched("min " + min, NEW, x -> x.create(0, 31, min), REFUSED);
        }
    }

    static void p2RefusedIfMinIsAboveTheReplicas() {
        for (int replicas = 1; replicas < 32; replicas++) {
            int mask = replicas;
            untouched("one more", NEW, x -> x.create(0, mask, Integer.bitCount(mask) + 1), REFUSED);
            untouched("the greatest", NEW, x -> x.create(0, mask, MAX), REFUSED);
        }
    }

    static void p2TakesMin1AndAsManyAsReplicas() {
        for (int replicas = 1; replicas < 32; replicas++) {
            TallyLogs x = new TallyLogs();
            int least = Integer.numberOfTrailingZeros(replicas);
            Due.same("min 1 of " + replicas, x.create(0, replicas, 1), least);
            Due.same("min of all of " + replicas, x.create(1, replicas, Integer.bitCount(replicas)), least);
        }
    }

    static void p2MinCountsReplicasThatAreNotUp() {
        TallyLogs x = new TallyLogs();
        x.crash(0, 0);
        x.crash(1, 0);
        Due.same("min 3 of 3, one is UP", x.create(0, 7, 3), 2);
        dueState(x, 0, 2, 0, 4, 0);
        untouched("min 4 of 3", y -> y.crash(0, 0), y -> y.create(0, 7, 4), REFUSED);
    }

    static void p2NoneIfNoReplicaIsUp() {
        Scene down = x -> {
            x.crash(0, 0);
            x.crash(4, 0);
        };
        untouched("one", down, x -> x.create(0, 16, 1), NONE);
        untouched("two", down, x -> x.create(3, 17, 2), NONE);
        TallyLogs x = made(down);
        x.create(0, 17, 1);
        x.restart(4);
        Due.same("it had not come", x.create(0, 17, 1), 4);
    }

    static void p2RefusedGoesBeforeNone() {
        Scene down = x -> {
            x.create(0, 31, 1);
            x.crash(4, 0);
        };
        for (int p : NOT_0_TO_3) {
            untouched("p " + p, down, x -> x.create(p, 16, 1), REFUSED);
        }
        untouched("there", down, x -> x.create(0, 16, 1), REFUSED);
        untouched("min 0", down, x -> x.create(1, 16, 0), REFUSED);
        untouched("min 2", down, x -> x.create(1, 16, 2), REFUSED);
    }

    static void p2TheLeastThatIsUpLeads() {
        TallyLogs x = new TallyLogs();
        for (int n = 0; n < 4; n++) {
            Due.same("the least", x.create(n, 31, 1), n);
            dueState(x, n, n, 0, 31 & ~((1 << n) - 1), 0);
            x.crash(n, 0);
        }
    }

    static void p2CaughtIsNowAndLogsAreEmpty() {
        TallyLogs x = new TallyLogs();
        x.tick(50);
        x.tick(50);
        x.crash(2, 0);
        x.create(1, 7, 1);
        for (int n = 0; n < 3; n++) {
            dueLog(x, n, 1, 0, 0, 0, 0, 0, 100);
        }
    }

    // ---- promise 3: elect ----

    static void p3RefusedWithoutSuchAPartition() {
        for (int p : new int[] {MIN, -1, 1, 2, 3, 4, MAX}) {
            untouched("elect(" + p + ", false)", TRIMMED, x -> x.elect(p, false), REFUSED);
            untouched("elect(" + p + ", true)", TRIMMED, x -> x.elect(p, true), REFUSED);
        }
    }

    static void p3TakesP0To3() {
        TallyLogs x = new TallyLogs();
        for (int p = 0; p < 4; p++) {
            x.create(p, 31, 1);
            Due.same("elect(" + p + ")", x.elect(p, p % 2 == 0), 0);
            dueState(x, p, 0, 1, 31, 0);
        }
    }

    static void p3NoneIfNoneInStepIsUp() {
        untouched("another replica is UP", LOST, x -> x.elect(0, false), NONE);
    }

    static void p3NoneIfUncleanAndNoReplicaIsUp() {
        Scene all = x -> {
            LOST.on(x);
            x.crash(1, 9);
        };
        untouched("unclean", all, x -> x.elect(0, true), NONE);
        untouched("not unclean", all, x -> x.elect(0, false), NONE);
    }

    static void p3UncleanTakesTheLeastReplicaThatIsUpAlone() {
        TallyLogs x = new TallyLogs();
        x.create(0, 28, 1);
        x.tick(11);
        x.crash(2, 0);
        Due.same("nodes 0 and 1 are no replicas", x.elect(0, true), 3);
        dueState(x, 0, 3, 1, 8, 0);
        x.crash(3, 0);
        Due.same("the greatest node", x.elect(0, true), 4);
        dueState(x, 0, 4, 2, 16, 0);
    }

    static void p3OneInStepGoesBeforeALesserReplica() {
        for (boolean unclean : new boolean[] {false, true}) {
            TallyLogs x = new TallyLogs();
            x.create(0, 7, 1);
            x.crash(0, 0);
            x.restart(0);
            Due.same("the least IN STEP, unclean " + unclean, x.elect(0, unclean), 1);
            dueState(x, 0, 1, 1, 6, 0);
        }
    }

    static void p3TheLeastNodeThatIsUpAndInStep() {
        TallyLogs x = new TallyLogs();
        x.create(0, 31, 1);
        for (int n = 0; n < 5; n++) {
            Due.same("the least", x.elect(0, false), n);
            dueState(x, 0, n, n + 1, 31 & ~((1 << n) - 1), 0);
            x.crash(n, 0);
        }
        dueState(x, 0, -1, 5, 16, -1);
        x.restart(4);
        Due.same("it stayed IN STEP", x.elect(0, false), 4);
    }

    static void p3EpochIsOneMoreForTheSameLeaderToo() {
        TallyLogs x = made(ALONE);
        for (int epoch = 1; epoch < 10; epoch++) {
            Due.same("elect", x.elect(0, false), 0);
            Due.same("EPOCH", x.state(0, 1), epoch);
        }
    }

    static void p3KnownEndsAreMinus1ButItsOwn() {
        TallyLogs x = new TallyLogs();
        x.create(0, 15, 1);
        produceMany(x, 0, 3);
        catchUp(x, 1, 0);
        catchUp(x, 2, 0);
        x.crash(3, 0);
        x.elect(0, false);
        int[] due = {3, -1, -1, -1};
        for (int n = 0; n < due.length; n++) {
            Due.same("KNOWN end of " + n, x.log(n, 0, 4), due[n]);
        }
    }

    static void p3CaughtOfAllIsNow() {
        TallyLogs x = new TallyLogs();
        x.create(0, 15, 1);
        x.tick(11);
        x.follow(1, 0);
        x.crash(3, 0);
        x.tick(50);
        x.elect(0, false);
        for (int n = 0; n < 4; n++) {
            Due.same("CAUGHT of " + n, x.log(n, 0, 5), 61);
        }
    }

    static void p3HwRisesForOneAloneInStep() {
        TallyLogs x = new TallyLogs();
        x.create(0, 3, 1);
        produceMany(x, 0, 4);
        x.follow(1, 0);
        x.crash(0, 0);
        dueLog(x, 1, 0, 0, 4, 0);
        x.elect(0, false);
        dueLog(x, 1, 0, 0, 4, 4);
    }

    static void p3HwStaysWithOthersInStep() {
        TallyLogs x = new TallyLogs();
        x.create(0, 7, 1);
        produceMany(x, 0, 4);
        catchUp(x, 1, 0);
        catchUp(x, 2, 0);
        data(x, 0);
        x.follow(1, 0);
        x.follow(2, 0);
        x.elect(0, false);
        dueLog(x, 0, 0, 0, 5, 4);
        x.crash(0, 0);
        x.elect(0, false);
        dueLog(x, 1, 0, 0, 5, 4);
    }

    static void p3AnEmptyLogMayLead() {
        TallyLogs x = new TallyLogs();
        x.create(0, 3, 1);
        produceMany(x, 0, 4);
        x.crash(0, 9);
        Due.same("elect", x.elect(0, false), 1);
        dueLog(x, 1, 0, 0, 0, 0, 0, 0, 0);
        dueState(x, 0, 1, 1, 2, 0);
    }

    static void p3ALogWith60RecordsMayLead() {
        TallyLogs x = new TallyLogs();
        x.create(0, 3, 1);
        produceMany(x, 0, ROOM);
        catchUp(x, 1, 0);
        x.crash(0, 0);
        Due.same("elect", x.elect(0, false), 1);
        dueLog(x, 1, 0, 0, 60, 60, 0, 60, 0);
        Due.same("FULL", data(x, 0), FULL);
    }

    // ---- promise 6: safe ----

    static void p6RefusedWithoutSuchAPartition() {
        for (int p : new int[] {MIN, -1, 1, 3, 4, MAX}) {
            untouched("safe(" + p + ")", TRIMMED, x -> x.safe(p, 3), REFUSED);
            untouched("without a leader, too", LOST, x -> x.safe(p, 3), REFUSED);
        }
    }

    static void p6NoneWithoutALeader() {
        for (int offset : new int[] {MIN, -1, 0, 3, 5, MAX}) {
            untouched("safe(0, " + offset + ")", LOST, x -> x.safe(0, offset), NONE);
        }
    }

    static void p6BelowHwIs1AtHwIs0() {
        int[] offsets = {MIN, -1, 0, 1, 2, 4, 5, 6, 7, MAX};
        int[] due = {1, 1, 1, 1, 1, 1, 0, 0, 0, 0};
        for (int i = 0; i < offsets.length; i++) {
            int offset = offsets[i];
            untouched("safe(0, " + offset + ")", TRIMMED, x -> x.safe(0, offset), due[i]);
        }
    }

    static void p6OfAnEmptyLog() {
        untouched("safe(0, -1)", ALONE, x -> x.safe(0, -1), 1);
        untouched("safe(0, 0)", ALONE, x -> x.safe(0, 0), 0);
        untouched("safe(0, MAX)", ALONE, x -> x.safe(0, MAX), 0);
    }

    static void p6OfALogWith60Records() {
        Scene full = x -> {
            ALONE.on(x);
            produceMany(x, 0, ROOM);
        };
        untouched("the first", full, x -> x.safe(0, 0), 1);
        untouched("the last", full, x -> x.safe(0, 59), 1);
        untouched("END", full, x -> x.safe(0, 60), 0);
    }

    static void p6TheLeadersHwCounts() {
        TallyLogs x = new TallyLogs();
        x.create(0, 3, 1);
        data(x, 0);
        x.follow(1, 0);
        Due.same("not known", x.safe(0, 0), 0);
        x.follow(1, 0);
        Due.same("known", x.safe(0, 0), 1);
        Due.same("the follower has the same HW", x.log(1, 0, 2), 1);
        data(x, 0);
        x.follow(1, 0);
        x.crash(1, 0);
        Due.same("the leader's alone", x.safe(0, 1), 1);
    }

    // ---- promise 21: trim ----

    static void p21RefusedWithoutSuchAPartition() {
        for (int p : new int[] {MIN, -1, 1, 3, 4, MAX}) {
            untouched("trim(" + p + ")", TRIMMED, x -> x.trim(p, 3), REFUSED);
            untouched("without a leader, too", LOST, x -> x.trim(p, 3), REFUSED);
        }
    }

    static void p21NoneWithoutALeader() {
        for (int offset : new int[] {MIN, -1, 0, 2, 3, 5, 6, MAX}) {
            untouched("trim(0, " + offset + ")", LOST, x -> x.trim(0, offset), NONE);
        }
    }

    static void p21RefusedBelowStart() {
        for (int offset : new int[] {MIN, -1, 0, 1}) {
            untouched("trim(0, " + offset + ")", TRIMMED, x -> x.trim(0, offset), REFUSED);
        }
        untouched("below 0", ALONE, x -> x.trim(0, -1), REFUSED);
    }

    static void p21RefusedAboveHw() {
        for (int offset : new int[] {6, 7, 8, MAX}) {
            untouched("trim(0, " + offset + ")", TRIMMED, x -> x.trim(0, offset), REFUSED);
        }
    }

    static void p21AtStartNothingGoes() {
        untouched("trim(0, 2)", TRIMMED, x -> x.trim(0, 2), 5);
    }

    static void p21OneAboveStartOneGoes() {
        TallyLogs x = made(TRIMMED);
        Due.same("trim(0, 3)", x.trim(0, 3), 4);
        dueLog(x, 0, 0, 3, 7, 5, 3, 7, 0);
        Due.same("gone", x.record(0, 0, 2, 0), NO_RECORD);
        Due.same("the first left", x.record(0, 0, 3, 0), 0);
    }

    static void p21AtHwAllBelowItGo() {
        TallyLogs x = made(TRIMMED);
        Due.same("trim(0, 5)", x.trim(0, 5), 2);
        dueLog(x, 0, 0, 5, 7, 5, 5, 7, 0);
        dueLog(x, 1, 0, 0, 5, 5, 0, 5, 0);
        Due.same("gone", x.record(0, 0, 4, 0), NO_RECORD);
        Due.same("the first left", x.record(0, 0, 5, 0), 0);
        Due.same("START is HW", x.trim(0, 5), 2);
        Due.same("below it", x.trim(0, 4), REFUSED);
        Due.same("above it", x.trim(0, 6), REFUSED);
    }

    static void p21OfAnEmptyLog() {
        untouched("at START and HW", ALONE, x -> x.trim(0, 0), 0);
        untouched("above", ALONE, x -> x.trim(0, 1), REFUSED);
    }

    static void p21OfALogWith60Records() {
        TallyLogs x = made(ALONE);
        produceMany(x, 0, ROOM);
        Due.same("above HW", x.trim(0, 61), REFUSED);
        Due.same("one", x.trim(0, 1), 59);
        Due.same("all", x.trim(0, 60), 0);
        dueLog(x, 0, 0, 60, 60, 60, 60, 60, 0);
        for (int i = 0; i < ROOM; i++) {
            Due.same("60 more", x.produce(0, -1, 0, i, -i, false), 60 + i);
        }
        Due.same("FULL", data(x, 0), FULL);
        for (int i = 0; i < ROOM; i++) {
            Due.same("KEY", x.record(0, 0, 60 + i, 4), i);
        }
        Due.same("all", x.trim(0, 120), 0);
        Due.same("gone", x.record(0, 0, 119, 4), NO_RECORD);
    }

    static void p21FlushedIsAtLeastStart() {
        TallyLogs x = made(ALONE);
        produceMany(x, 0, 6);
        x.trim(0, 2);
        dueLog(x, 0, 0, 2, 6, 6, 2);
        x.flush(0, 0);
        x.trim(0, 4);
        dueLog(x, 0, 0, 4, 6, 6, 6);
    }

    // ---- promise 24: state ----

    static void p24RefusedWithoutSuchAPartition() {
        for (int p : new int[] {MIN, -1, 1, 3, 4, MAX}) {
            for (int what : new int[] {MIN, -1, 0, 1, 2, 3, 4, MAX}) {
                untouched("state(" + p + ", " + what + ")", TRIMMED, x -> x.state(p, what), REFUSED);
            }
        }
    }

    static void p24RefusedForAnotherWhat() {
        for (int what : NOT_0_TO_3) {
            untouched("what " + what, TRIMMED, x -> x.state(0, what), REFUSED);
            untouched("without a leader", LOST, x -> x.state(0, what), REFUSED);
        }
    }

    static void p24TakesWhat0To3() {
        int[] due = {0, 0, 3, 7};
        for (int what = 0; what < 4; what++) {
            int asked = what;
            untouched("what " + what, TRIMMED, x -> x.state(0, asked), due[what]);
        }
    }

    static void p24WithoutALeader() {
        int[] due = {-1, 0, 1, -1};
        for (int what = 0; what < 4; what++) {
            int asked = what;
            untouched("what " + what, LOST, x -> x.state(0, asked), due[what]);
        }
    }

    static void p24EndWithoutBoundData() {
        TallyLogs x = made(ALONE);
        Due.same("empty", x.state(0, 3), 0);
        produceMany(x, 0, ROOM);
        Due.same("60 records", x.state(0, 3), 60);
        x.trim(0, 60);
        Due.same("empty again", x.state(0, 3), 60);
        TallyLogs y = made(TRIMMED);
        Due.same("END, not HW", y.state(0, 3), 7);
    }

    static void p24TheFirstBoundDataWithoutItsEnd() {
        TallyLogs x = made(ALONE);
        x.register(0);
        x.begin(0);
        x.produce(0, 0, 0, 0, 0, false);
        Due.same("at START, the only one", x.state(0, 3), 0);
        produceMany(x, 0, 2);
        x.produce(0, 0, 1, 0, 0, false);
        Due.same("at START, the first of two", x.state(0, 3), 0);
        x.trim(0, 1);
        Due.same("the last one", x.state(0, 3), 3);
        x.finish(0, true);
        Due.same("ENDING", x.state(0, 3), 3);
        x.settle(0);
        Due.same("END", x.state(0, 3), 5);
    }

    static void p24AnEndAboveHwIsOne() {
        TallyLogs x = new TallyLogs();
        x.create(0, 3, 1);
        x.register(0);
        x.begin(0);
        x.produce(0, 0, 0, 0, 0, false);
        Due.same("above HW", x.state(0, 3), 0);
        x.finish(0, false);
        x.settle(0);
        dueLog(x, 0, 0, 0, 2, 0);
        Due.same("its END above HW", x.state(0, 3), 2);
    }

    static void p24AnEndBeforeItOrOfAnotherIsNone() {
        TallyLogs x = made(ALONE);
        for (int k = 0; k < 2; k++) {
            x.register(k);
            x.begin(k);
        }
        x.produce(0, 0, 0, 0, 0, false);
        x.produce(0, 1, 0, 0, 0, false);
        x.finish(0, true);
        x.settle(0);
        Due.same("another PRODUCER's", x.state(0, 3), 1);
        x.begin(0);
        x.produce(0, 0, 1, 0, 0, false);
        x.finish(1, true);
        x.settle(1);
        Due.same("one before it", x.state(0, 3), 3);
    }
}
