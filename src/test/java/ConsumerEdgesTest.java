/** The boundary cases of consume, seen, member, owner, move and position, a test for each sentence that names one. */
public final class ConsumerEdgesTest extends Steps {
    private static final Scene NEW = x -> { };

    /** Partition 0 on nodes 0 and 1: 0 leads with START 2, HW 5, END 7; KEYS are the OFFSETS, and 4 was SEEN. */
    private static final Scene TRIMMED = x -> {
        x.create(0, 3, 1);
        keys(x, 0, 5);
        catchUp(x, 1, 0);
        keys(x, 5, 7);
        x.trim(0, 2);
        x.consume(0, 4, false);
    };

    private static final Scene LOST = x -> {
        TRIMMED.on(x);
        x.crash(0, 9);
    };

    /** Partition 0 on node 0: 0 loose, 1 and 2 BOUND by producer 0, 3 loose, and 4, its commit. */
    private static final Scene COMMITTED = x -> {
        x.create(0, 1, 1);
        bind(x);
        x.finish(0, true);
        x.settle(0);
    };

    private static final Scene ABORTED = x -> {
        x.create(0, 1, 1);
        bind(x);
        x.finish(0, false);
        x.settle(0);
    };

    private static final Scene NOT_ENDED = x -> {
        x.create(0, 1, 1);
        bind(x);
        x.finish(0, true);
    };

    /** Partitions 1 and 3; group 2 has the members 0 and 7, its ROUND is 2; positions 11 and 13. */
    private static final Scene GROUP = x -> {
        x.create(1, 1, 1);
        x.create(3, 2, 1);
        x.member(2, 7);
        x.member(2, 0);
        x.move(2, 0, 2, 1, 11);
        x.move(2, 7, 2, 3, 13);
    };

    public static void main(String[] args) throws IllegalAccessException {
        Suite.run(ConsumerEdgesTest.class, 11, 12, 13, 14, 15, 16);
    }

    private static void keys(TallyLogs x, int from, int to) {
        for (int i = from; i < to; i++) {
            x.produce(0, -1, 0, i, -i, false);
        }
    }

    private static void bind(TallyLogs x) {
        x.register(0);
        data(x, 0);
        x.begin(0);
        x.produce(0, 0, 0, 0, 0, false);
        x.produce(0, 0, 1, 0, 0, false);
        data(x, 0);
    }

    private static void dueConsumed(Scene scene, boolean committed, int... want) {
        for (int offset = 0; offset < want.length; offset++) {
            Due.same("consume(0, " + offset + ", " + committed + ")", made(scene).consume(0, offset, committed),
                want[offset]);
        }
    }

    // ---- promise 11: consume ----

    static void p11RefusedWithoutSuchAPartition() {
        for (int p : new int[] {MIN, -1, 1, 3, 4, MAX}) {
            untouched("consume(" + p + ")", TRIMMED, x -> x.consume(p, 3, false), REFUSED);
            untouched("without a leader", LOST, x -> x.consume(p, 3, true), REFUSED);
        }
    }

    static void p11RefusedBelowStart() {
        for (int offset : new int[] {MIN, -1, 0, 1}) {
            untouched("offset " + offset, TRIMMED, x -> x.consume(0, offset, false), REFUSED);
            untouched("offset " + offset, TRIMMED, x -> x.consume(0, offset, true), REFUSED);
        }
    }

    static void p11RefusedAboveHw() {
        for (int offset : new int[] {6, 7, 8, MAX}) {
            untouched("offset " + offset, TRIMMED, x -> x.consume(0, offset, false), REFUSED);
            untouched("offset " + offset, TRIMMED, x -> x.consume(0, offset, true), REFUSED);
        }
    }

    static void p11AtStart() {
        TallyLogs x = made(TRIMMED);
        Due.same("consume", x.consume(0, 2, true), 2);
        dueSeen(x, 0, -1, -1, -1, 2, -2);
    }

    static void p11BelowHw() {
        TallyLogs x = made(TRIMMED);
        Due.same("consume", x.consume(0, 4, true), 4);
        dueSeen(x, 0, -1, -1, -1, 4, -4);
    }

    static void p11NoneAtHw() {
        untouched("all", TRIMMED, x -> x.consume(0, 5, false), NONE);
        untouched("COMMITTED", TRIMMED, x -> x.consume(0, 5, true), NONE);
    }

    static void p11NoneWithoutALeader() {
        for (int offset : new int[] {MIN, -1, 0, 2, 5, 6, MAX}) {
            untouched("offset " + offset, LOST, x -> x.consume(0, offset, false), NONE);
            untouched("offset " + offset, LOST, x -> x.consume(0, offset, true), NONE);
        }
    }

    static void p11OfAnEmptyLog() {
        Scene empty = x -> x.create(0, 1, 1);
        untouched("at START and HW", empty, x -> x.consume(0, 0, false), NONE);
        untouched("below", empty, x -> x.consume(0, -1, false), REFUSED);
        untouched("above", empty, x -> x.consume(0, 1, false), REFUSED);
        Scene again = x -> {
            empty.on(x);
            keys(x, 0, 3);
            x.trim(0, 3);
        };
        untouched("at START and HW, trimmed", again, x -> x.consume(0, 3, true), NONE);
        untouched("below, trimmed", again, x -> x.consume(0, 2, true), REFUSED);
        untouched("above, trimmed", again, x -> x.consume(0, 4, true), REFUSED);
    }

    static void p11OfALogWith60Records() {
        TallyLogs x = new TallyLogs();
        x.create(0, 1, 1);
        keys(x, 0, 60);
        x.trim(0, 1);
        keys(x, 60, 61);
        Due.same("below START", x.consume(0, 0, true), REFUSED);
        for (int offset = 1; offset <= ROOM; offset++) {
            Due.same("consume", x.consume(0, offset, offset % 2 == 0), offset);
            Due.same("KEY", x.seen(4), offset);
        }
        Due.same("at HW", x.consume(0, 61, true), NONE);
        Due.same("above HW", x.consume(0, 62, true), REFUSED);
    }

    static void p11CommitsAndAbortsAreNoData() {
        dueConsumed(COMMITTED, false, 0, 1, 2, 3, NONE, NONE, REFUSED);
        dueConsumed(ABORTED, false, 0, 1, 2, 3, NONE, NONE, REFUSED);
        TallyLogs x = made(COMMITTED);
        data(x, 0);
        Due.same("past the commit", x.consume(0, 4, false), 5);
        Due.same("past the commit", x.consume(0, 4, true), 5);
    }

    static void p11CommittedIsSeen() {
        dueConsumed(COMMITTED, true, 0, 1, 2, 3, NONE, NONE, REFUSED);
    }

    static void p11AbortedIsNotSeenByCommittedConsumers() {
        dueConsumed(ABORTED, true, 0, 3, 3, 3, NONE, NONE, REFUSED);
    }

    static void p11BelowTheFirstBoundDataWithoutItsEnd() {
        dueConsumed(NOT_ENDED, true, 0, NONE, NONE, NONE, NONE, REFUSED);
        dueConsumed(NOT_ENDED, false, 0, 1, 2, 3, NONE, REFUSED);
    }

    static void p11AnEndAboveHwCounts() {
        Scene scene = x -> {
            x.create(0, 3, 1);
            bind(x);
            x.follow(1, 0);
            x.follow(1, 0);
            x.finish(0, false);
            x.settle(0);
        };
        dueLog(made(scene), 0, 0, 0, 5, 4);
        dueConsumed(scene, true, 0, 3, 3, 3, NONE, REFUSED);
    }

    static void p11TheFirstEndBehindItCounts() {
        TallyLogs x = made(COMMITTED);
        x.begin(0);
        x.produce(0, 0, 2, 0, 0, false);
        Due.same("the second is not ended", x.consume(0, 4, true), NONE);
        Due.same("the first is", x.consume(0, 1, true), 1);
        x.finish(0, false);
        x.settle(0);
        Due.same("the second is aborted", x.consume(0, 4, true), NONE);
        Due.same("the first is not", x.consume(0, 1, true), 1);
        TallyLogs y = made(ABORTED);
        y.begin(0);
        y.produce(0, 0, 2, 0, 0, false);
        y.finish(0, true);
        y.settle(0);
        Due.same("the second is committed", y.consume(0, 4, true), 5);
        Due.same("the first is not", y.consume(0, 1, true), 3);
    }

    static void p11LooseDataOfAnAbortedProducerIsSeen() {
        TallyLogs x = new TallyLogs();
        x.create(0, 1, 1);
        x.register(0);
        x.produce(0, 0, 0, 0, 0, false);
        x.begin(0);
        x.produce(0, 0, 1, 0, 0, false);
        x.register(0);
        x.settle(0);
        x.produce(0, 8, 0, 0, 0, false);
        Due.same("LOOSE", x.consume(0, 0, true), 0);
        Due.same("past the aborted", x.consume(0, 1, true), 3);
    }

    // ---- promise 12: seen ----

    static void p12ZeroBeforeTheFirst() {
        for (int what : new int[] {MIN, -1, 0, 1, 2, 3, 4, 5, 6, MAX}) {
            untouched("seen(" + what + ")", NEW, x -> x.seen(what), 0);
        }
        Scene none = x -> {
            x.create(0, 3, 1);
            keys(x, 0, 3);
            x.consume(0, 0, false);
            x.consume(0, 1, false);
            x.consume(1, 0, false);
        };
        for (int what = 0; what < 6; what++) {
            int asked = what;
            untouched("nothing was SEEN", none, x -> x.seen(asked), 0);
        }
    }

    static void p12ZeroForOthers() {
        for (int what : NOT_0_TO_5) {
            untouched("seen(" + what + ")", TRIMMED, x -> x.seen(what), 0);
        }
    }

    static void p12TakesWhat0To5() {
        TallyLogs x = new TallyLogs();
        x.create(2, 1, 1);
        x.elect(2, false);
        x.register(3);
        x.register(3);
        x.register(3);
        x.produce(2, 19, 0, MIN, MAX, false);
        x.produce(2, 19, 1, MAX, MIN, false);
        x.consume(2, 0, false);
        dueSeen(x, 1, 3, 2, 0, MIN, MAX, 0);
        x.consume(2, 1, false);
        dueSeen(x, 1, 3, 2, 1, MAX, MIN, 0);
    }

    static void p12StaysWithoutAnother() {
        TallyLogs x = made(TRIMMED);
        x.consume(0, 5, false);
        x.consume(0, 6, false);
        x.consume(3, 0, false);
        x.trim(0, 5);
        x.crash(0, 0);
        x.consume(0, 2, false);
        dueSeen(x, 0, -1, -1, -1, 4, -4);
    }

    // ---- promise 13: member ----

    static void p13RefusedForAnotherGroup() {
        for (int group : NOT_0_TO_3) {
            untouched("group " + group, GROUP, x -> x.member(group, 0), REFUSED);
        }
    }

    static void p13RefusedForAnotherMember() {
        for (int m : NOT_0_TO_7) {
            untouched("member " + m, GROUP, x -> x.member(2, m), REFUSED);
        }
    }

    static void p13TakesGroups0To3AndMembers0To7() {
        TallyLogs x = new TallyLogs();
        x.create(0, 1, 1);
        for (int group = 0; group < 4; group++) {
            for (int m = 7; m >= 0; m--) {
                Due.same("comes", x.member(group, m), 8 - m);
                Due.same("the least", x.owner(group, 0), m);
            }
            for (int m = 0; m < 8; m++) {
                Due.same("goes", x.member(group, m), 9 + m);
                Due.same("the least", x.owner(group, 0), m == 7 ? NONE : m + 1);
            }
        }
    }

    // ---- promise 14: owner ----

    static void p14RefusedForAnotherGroup() {
        for (int group : NOT_0_TO_3) {
            untouched("group " + group, GROUP, x -> x.owner(group, 1), REFUSED);
        }
    }

    static void p14RefusedWithoutSuchAPartition() {
        for (int p : new int[] {MIN, -1, 0, 2, 4, MAX}) {
            untouched("partition " + p, GROUP, x -> x.owner(2, p), REFUSED);
            untouched("without members", GROUP, x -> x.owner(0, p), REFUSED);
        }
    }

    static void p14NoneWithoutMembers() {
        for (int group : new int[] {0, 1, 3}) {
            untouched("group " + group, GROUP, x -> x.owner(group, 1), NONE);
            untouched("group " + group, GROUP, x -> x.owner(group, 3), NONE);
        }
    }

    static void p14ThePlaceIsModuloHowManyMembers() {
        int[][] due = {{0, 0, 0, 0}, {0, 1, 0, 1}, {0, 1, 2, 0}, {0, 1, 2, 3}, {0, 1, 2, 3}};
        TallyLogs x = new TallyLogs();
        for (int p = 0; p < 4; p++) {
            x.create(p, 1, 1);
        }
        for (int m = 0; m < due.length; m++) {
            x.member(3, m);
            for (int p = 0; p < 4; p++) {
                Due.same("of " + (m + 1) + " members, partition " + p, x.owner(3, p), due[m][p]);
            }
        }
    }

    static void p14ThePlaceIsAmongPartitionsThatAreThere() {
        untouched("the first is 1", GROUP, x -> x.owner(2, 1), 0);
        untouched("the second is 3", GROUP, x -> x.owner(2, 3), 7);
        TallyLogs x = made(GROUP);
        x.create(2, 1, 1);
        int[] three = {REFUSED, 0, 7, 0};
        for (int p = 0; p < 4; p++) {
            Due.same("of three, partition " + p, x.owner(2, p), three[p]);
        }
        x.create(0, 1, 1);
        int[] four = {0, 7, 0, 7};
        for (int p = 0; p < 4; p++) {
            Due.same("of four, partition " + p, x.owner(2, p), four[p]);
        }
    }

    // ---- promise 15: move ----

    static void p15RefusedForAnOffsetBelow0() {
        untouched("-1", GROUP, x -> x.move(2, 0, 2, 1, -1), REFUSED);
        untouched("the least", GROUP, x -> x.move(2, 0, 2, 1, MIN), REFUSED);
    }

    static void p15TakesOffsetsFrom0On() {
        TallyLogs x = made(GROUP);
        for (int offset : new int[] {0, 1, 60, MAX - 1, MAX}) {
            Due.same("move to " + offset, x.move(2, 0, 2, 1, offset), 0);
            Due.same("position", x.position(2, 1), offset);
        }
        Due.same("back to 0", x.move(2, 0, 2, 1, 0), 0);
        Due.same("position", x.position(2, 1), 0);
        Due.same("the other one's stays", x.position(2, 3), 13);
    }

    static void p15RefusedForAnotherGroup() {
        for (int group : NOT_0_TO_3) {
            untouched("group " + group, GROUP, x -> x.move(group, 0, 2, 1, 5), REFUSED);
        }
    }

    static void p15RefusedWithoutSuchAPartition() {
        for (int p : new int[] {MIN, -1, 0, 2, 4, MAX}) {
            untouched("partition " + p, GROUP, x -> x.move(2, 0, 2, p, 5), REFUSED);
        }
    }

    static void p15WrongIfItIsNotTheMembers() {
        for (int m : new int[] {MIN, -2, -1, 1, 6, 7, 8, MAX}) {
            untouched("member " + m, GROUP, x -> x.move(2, m, 2, 1, 5), WRONG);
        }
        for (int m : new int[] {MIN, -2, -1, 0, 1, 6, 8, MAX}) {
            untouched("member " + m, GROUP, x -> x.move(2, m, 2, 3, 5), WRONG);
        }
    }

    static void p15WrongIfItIsNobodys() {
        for (int m : new int[] {MIN, -3, -2, -1, 0, 7, 8, MAX}) {
            untouched("member " + m, GROUP, x -> x.move(1, m, 0, 1, 5), WRONG);
        }
    }

    static void p15WrongIfItIsNotTheRound() {
        for (int round : new int[] {MIN, -1, 0, 1, 3, MAX}) {
            untouched("round " + round, GROUP, x -> x.move(2, 0, round, 1, 5), WRONG);
        }
    }

    static void p15RefusedGoesBeforeWrong() {
        untouched("another's", GROUP, x -> x.move(2, 7, 2, 1, -1), REFUSED);
        untouched("another round", GROUP, x -> x.move(2, 0, 1, 1, -1), REFUSED);
        untouched("nobody's", GROUP, x -> x.move(1, 0, 0, 1, -1), REFUSED);
        untouched("no partition", GROUP, x -> x.move(2, 7, 1, 0, 5), REFUSED);
        untouched("no group", GROUP, x -> x.move(4, 7, 1, 1, 5), REFUSED);
    }

    static void p15TakesPartitions0To3OfGroups0To3() {
        TallyLogs x = new TallyLogs();
        for (int p = 0; p < 4; p++) {
            x.create(p, 1, 1);
        }
        for (int group = 0; group < 4; group++) {
            x.member(group, 6);
            for (int p = 0; p < 4; p++) {
                Due.same("move", x.move(group, 6, 1, p, 10 * group + p), 0);
            }
        }
        for (int group = 0; group < 4; group++) {
            for (int p = 0; p < 4; p++) {
                Due.same("position", x.position(group, p), 10 * group + p);
            }
        }
    }

    static void p15TakesTheLeastAndTheGreatestMember() {
        TallyLogs x = made(GROUP);
        Due.same("member 0", x.move(2, 0, 2, 1, 5), 0);
        Due.same("member 7", x.move(2, 7, 2, 3, 6), 0);
        Due.same("position", x.position(2, 1), 5);
        Due.same("position", x.position(2, 3), 6);
        x.member(2, 0);
        Due.same("one that went", x.move(2, 0, 3, 1, 7), WRONG);
        Due.same("the one that is left", x.move(2, 7, 3, 1, 7), 0);
        x.crash(0, 0);
        Due.same("without a leader", x.move(2, 7, 3, 1, 8), 0);
    }

    // ---- promise 16: position ----

    static void p16RefusedForAnotherGroup() {
        for (int group : NOT_0_TO_3) {
            untouched("group " + group, GROUP, x -> x.position(group, 1), REFUSED);
        }
    }

    static void p16RefusedWithoutSuchAPartition() {
        for (int p : new int[] {MIN, -1, 0, 2, 4, MAX}) {
            untouched("partition " + p, GROUP, x -> x.position(2, p), REFUSED);
        }
    }

    static void p16ZeroAtFirst() {
        for (int group : new int[] {0, 1, 3}) {
            untouched("group " + group, GROUP, x -> x.position(group, 1), 0);
            untouched("group " + group, GROUP, x -> x.position(group, 3), 0);
        }
        Scene more = x -> {
            GROUP.on(x);
            x.create(0, 1, 1);
        };
        untouched("a new partition", more, x -> x.position(2, 0), 0);
    }

    static void p16StaysWhenMembersGo() {
        untouched("the first", GROUP, x -> x.position(2, 1), 11);
        untouched("the second", GROUP, x -> x.position(2, 3), 13);
        TallyLogs x = made(GROUP);
        x.member(2, 0);
        x.member(2, 7);
        Due.same("nobody's", x.owner(2, 1), NONE);
        Due.same("the first", x.position(2, 1), 11);
        Due.same("the second", x.position(2, 3), 13);
    }
}
