/** The boundary cases of a new object, of time, of nodes, and of looks at them: a test for each sentence. */
public final class ClusterEdgesTest extends Steps {
    private static final Scene NEW = x -> { };

    /** Partition 0 on nodes 0, 1 and 2; all have three records, node 0 two more. The leader's HW is 3; NOW is 5. */
    private static final Scene FIVE = x -> {
        x.create(0, 7, 1);
        produceMany(x, 0, 3);
        catchUp(x, 1, 0);
        catchUp(x, 2, 0);
        produceMany(x, 0, 2);
        x.tick(5);
    };

    /** As FIVE, and node 2 is lost. */
    private static final Scene FIVE_WITHOUT_2 = x -> {
        FIVE.on(x);
        x.crash(2, 2);
    };

    /** Partition 0 on node 3 with 60 records, OFFSETS 1 to 60, KEYS like them. */
    private static final Scene SIXTY = x -> {
        x.create(0, 8, 1);
        for (int i = 0; i < ROOM; i++) {
            x.produce(0, -1, 0, i, -i, false);
        }
        x.trim(0, 1);
        x.produce(0, -1, 0, 60, -60, false);
    };

    public static void main(String[] args) throws IllegalAccessException {
        Suite.run(ClusterEdgesTest.class, 1, 17, 18, 19, 20, 22, 23, 25);
    }

    // ---- promise 1: a new object ----

    static void p1AllNodesAreUp() {
        untouched("bits", NEW, x -> x.count(1), 31);
        for (int n = 0; n < 5; n++) {
            int node = n;
            untouched("restart(" + n + ")", NEW, x -> x.restart(node), REFUSED);
        }
    }

    static void p1NoPartitions() {
        for (int i = 0; i < 4; i++) {
            int p = i;
            untouched("elect", NEW, x -> x.elect(p, true), REFUSED);
            untouched("produce", NEW, x -> data(x, p), REFUSED);
            untouched("safe", NEW, x -> x.safe(p, 0), REFUSED);
            untouched("follow", NEW, x -> x.follow(0, p), REFUSED);
            untouched("consume", NEW, x -> x.consume(p, 0, false), REFUSED);
            untouched("owner", NEW, x -> x.owner(0, p), REFUSED);
            untouched("move", NEW, x -> x.move(0, 0, 0, p, 0), REFUSED);
            untouched("position", NEW, x -> x.position(0, p), REFUSED);
            untouched("flush", NEW, x -> x.flush(0, p), REFUSED);
            untouched("trim", NEW, x -> x.trim(p, 0), REFUSED);
            untouched("log", NEW, x -> x.log(0, p, 0), REFUSED);
            untouched("record", NEW, x -> x.record(0, p, 0, 0), NO_RECORD);
            untouched("state", NEW, x -> x.state(p, 0), REFUSED);
        }
    }

    static void p1NothingElseHasHappened() {
        TallyLogs x = new TallyLogs();
        for (int what = 0; what < 8; what++) {
            Due.same("count(" + what + ")", x.count(what), what == 1 ? 31 : 0);
            Due.same("seen(" + what + ")", x.seen(what), 0);
        }
        x.create(0, 1, 1);
        for (int group = 0; group < 4; group++) {
            Due.same("no members", x.owner(group, 0), NONE);
            Due.same("no position", x.position(group, 0), 0);
            Due.same("round 0 before", x.member(group, 0), 1);
        }
    }

    // ---- promise 17: tick ----

    static void p17RefusedIfNIsNot1To50() {
        for (int n : new int[] {MIN, -50, -1, 0, 51, 52, MAX}) {
            untouched("tick(" + n + ")", FIVE, x -> x.tick(n), REFUSED);
        }
    }

    static void p17TakesN1To50() {
        TallyLogs x = new TallyLogs();
        int now = 0;
        for (int n = 1; n <= 50; n++) {
            Due.same("tick(" + n + ")", x.tick(n), 0);
            now += n;
            Due.same("NOW", x.count(0), now);
        }
    }

    static void p17NotInStepIfCaughtIsMoreThan10Before() {
        for (int n = 1; n <= 50; n++) {
            TallyLogs x = new TallyLogs();
            x.tick(7);
            x.create(0, 3, 1);
            Due.same("tick(" + n + ")", x.tick(n), n > 10 ? 1 : 0);
            Due.same("IN STEP", x.state(0, 2), n > 10 ? 1 : 3);
        }
    }

    static void p17TenTimesOneIsNotMoreThan10() {
        TallyLogs x = made(y -> y.create(0, 3, 1));
        for (int i = 0; i < 10; i++) {
            Due.same("tick(1)", x.tick(1), 0);
        }
        Due.same("the eleventh", x.tick(1), 1);
        Due.same("it is counted once", x.tick(1), 0);
    }

    static void p17TheLeaderStays() {
        TallyLogs x = made(y -> y.create(0, 16, 1));
        Due.same("tick", x.tick(50), 0);
        Due.same("tick", x.tick(50), 0);
        dueState(x, 0, 4, 0, 16, 0);
        Due.same("its CAUGHT", x.log(4, 0, 5), 0);
    }

    static void p17WithoutALeaderNoneGoes() {
        TallyLogs x = made(FIVE);
        x.crash(0, 0);
        Due.same("tick", x.tick(50), 0);
        dueState(x, 0, -1, 0, 6, -1);
        Due.same("elect", x.elect(0, false), 1);
        Due.same("CAUGHT was NOW then", x.tick(10), 0);
        Due.same("one more", x.tick(1), 1);
        dueState(x, 0, 1, 1, 2, 3);
    }

    static void p17AllButTheLeadersOfAllPartitions() {
        TallyLogs x = new TallyLogs();
        for (int p = 0; p < 4; p++) {
            x.create(p, 31, 1);
        }
        Due.same("sixteen", x.tick(11), 16);
        for (int p = 0; p < 4; p++) {
            dueState(x, p, 0, 0, 1, 0);
        }
    }

    static void p17ANodeBelowTheLeaderGoesToo() {
        TallyLogs x = new TallyLogs();
        x.crash(0, 0);
        x.create(0, 3, 1);
        x.restart(0);
        x.follow(0, 0);
        dueState(x, 0, 1, 0, 3, 0);
        Due.same("ten", x.tick(10), 0);
        Due.same("eleven", x.tick(1), 1);
        dueState(x, 0, 1, 0, 2, 0);
    }

    static void p17HwRises() {
        TallyLogs x = made(FIVE);
        dueLog(x, 0, 0, 0, 5, 3);
        x.follow(1, 0);
        Due.same("not yet", x.tick(5), 0);
        x.follow(1, 0);
        dueLog(x, 0, 0, 0, 5, 3);
        Due.same("node 2", x.tick(1), 1);
        dueLog(x, 0, 0, 0, 5, 5);
        dueState(x, 0, 0, 0, 3, 5);
    }

    // ---- promise 18: flush ----

    static void p18RefusedIfItIsNotUp() {
        untouched("flush", FIVE_WITHOUT_2, x -> x.flush(2, 0), REFUSED);
    }

    static void p18RefusedIfItIsNoReplica() {
        for (int n : new int[] {MIN, -1, 3, 4, 5, MAX}) {
            untouched("flush(" + n + ", 0)", FIVE, x -> x.flush(n, 0), REFUSED);
        }
        for (int p : new int[] {MIN, -1, 1, 3, 4, MAX}) {
            untouched("flush(0, " + p + ")", FIVE, x -> x.flush(0, p), REFUSED);
        }
    }

    static void p18HowManyWereNot() {
        TallyLogs x = made(FIVE);
        Due.same("all", x.flush(0, 0), 5);
        dueLog(x, 0, 0, 0, 5, 3, 5);
        Due.same("the follower's", x.flush(1, 0), 3);
        dueLog(x, 1, 0, 0, 3, 0, 3);
        dueLog(x, 2, 0, 0, 3, 3, 0);
        data(x, 0);
        Due.same("one", x.flush(0, 0), 1);
        untouched("none", y -> {
            FIVE.on(y);
            y.flush(0, 0);
        }, y -> y.flush(0, 0), 0);
    }

    static void p18OfAnEmptyLog() {
        untouched("flush", x -> x.create(3, 16, 1), x -> x.flush(4, 3), 0);
    }

    static void p18OfALogWith60Records() {
        TallyLogs x = made(SIXTY);
        Due.same("all but what FLUSHED rose over", x.flush(3, 0), 60);
        dueLog(x, 3, 0, 1, 61, 61, 61);
        Due.same("none", x.flush(3, 0), 0);
    }

    static void p18WithoutALeader() {
        TallyLogs x = made(FIVE);
        x.crash(0, 0);
        Due.same("flush", x.flush(1, 0), 3);
        Due.same("FLUSHED", x.log(1, 0, 3), 3);
    }

    // ---- promise 19: crash ----

    static void p19RefusedIfItIsNotUp() {
        untouched("lost already", FIVE_WITHOUT_2, x -> x.crash(2, 0), REFUSED);
        for (int n : NOT_0_TO_4) {
            untouched("crash(" + n + ")", FIVE, x -> x.crash(n, 0), REFUSED);
        }
    }

    static void p19RefusedIfKeepIsBelow0() {
        for (int n = 0; n < 5; n++) {
            int node = n;
            untouched("keep -1", FIVE, x -> x.crash(node, -1), REFUSED);
            untouched("the least keep", FIVE, x -> x.crash(node, MIN), REFUSED);
        }
    }

    static void p19TakesNodes0To4() {
        TallyLogs x = new TallyLogs();
        int up = 31;
        for (int n = 4; n >= 0; n--) {
            Due.same("crash(" + n + ")", x.crash(n, 0), 0);
            up &= ~(1 << n);
            Due.same("UP", x.count(1), up);
        }
    }

    static void p19TheFirstKeepBehindFlushedStay() {
        int[] keeps = {0, 1, 2, 3, 4, MAX - 1, MAX};
        int[] ends = {2, 3, 4, 5, 5, 5, 5};
        for (int i = 0; i < keeps.length; i++) {
            TallyLogs x = new TallyLogs();
            x.create(0, 1, 1);
            produceMany(x, 0, 2);
            x.flush(0, 0);
            produceMany(x, 0, 3);
            Due.same("keep " + keeps[i], x.crash(0, keeps[i]), 1);
            dueLog(x, 0, 0, 0, ends[i], ends[i], 2);
            Due.same("the last", x.record(0, 0, ends[i] - 1, 1), 0);
            Due.same("gone", x.record(0, 0, ends[i], 1), NO_RECORD);
        }
    }

    static void p19WhatIsFlushedStays() {
        TallyLogs x = made(FIVE);
        x.flush(0, 0);
        Due.same("keep 0", x.crash(0, 0), 1);
        dueLog(x, 0, 0, 0, 5, 3, 5);
    }

    static void p19OfAnEmptyLog() {
        for (int keep : new int[] {0, 1, MAX}) {
            TallyLogs x = made(y -> y.create(0, 1, 1));
            Due.same("crash", x.crash(0, keep), 1);
            dueLog(x, 0, 0, 0, 0, 0, 0, 0, 0);
        }
    }

    static void p19OfALogWith60Records() {
        int[] keeps = {0, 1, 59, 60, MAX};
        int[] ends = {1, 2, 60, 61, 61};
        for (int i = 0; i < keeps.length; i++) {
            TallyLogs x = made(SIXTY);
            Due.same("keep " + keeps[i], x.crash(3, keeps[i]), 1);
            dueLog(x, 3, 0, 1, ends[i], ends[i], 1);
        }
    }

    static void p19ItsHwIsAtMostEnd() {
        int[] keeps = {0, 2, 3, 4, 5};
        int[] hws = {0, 2, 3, 3, 3};
        for (int i = 0; i < keeps.length; i++) {
            TallyLogs x = made(FIVE);
            x.crash(0, keeps[i]);
            dueLog(x, 0, 0, 0, keeps[i], hws[i]);
        }
    }

    static void p19WhereItLeadsThereIsNoLeader() {
        TallyLogs x = new TallyLogs();
        x.create(0, 1, 1);
        x.create(1, 3, 1);
        x.create(2, 6, 1);
        x.create(3, 16, 1);
        Due.same("two", x.crash(0, 0), 2);
        dueState(x, 0, -1, 0, 1, -1);
        dueState(x, 1, -1, 0, 2, -1);
        dueState(x, 2, 1, 0, 6, 0);
        Due.same("three, the elder ones, too", x.crash(1, 0), 3);
        dueState(x, 1, -1, 0, 2, -1);
        dueState(x, 2, -1, 0, 4, -1);
        Due.same("a node that leads none", x.crash(3, 0), 3);
        Due.same("all four", x.crash(4, 0), 4);
        x.restart(4);
        x.elect(3, false);
        Due.same("a node that leads none", x.crash(2, 0), 3);
    }

    static void p19WhereOthersAreInStepItIsSoNoMore() {
        TallyLogs x = made(FIVE);
        Due.same("one of three", x.crash(1, 9), 0);
        dueState(x, 0, 0, 0, 5, 5);
        Due.same("one of two", x.crash(2, 9), 0);
        dueState(x, 0, 0, 0, 1, 5);
        Due.same("the last", x.crash(0, 9), 1);
        dueState(x, 0, -1, 0, 1, -1);
    }

    static void p19OneThatIsNotInStepChangesNoneOfThem() {
        TallyLogs x = made(FIVE);
        x.tick(11);
        dueState(x, 0, 0, 0, 1, 5);
        Due.same("crash", x.crash(1, 9), 0);
        dueState(x, 0, 0, 0, 1, 5);
    }

    static void p19HwRisesWithoutIt() {
        TallyLogs x = made(FIVE);
        catchUp(x, 1, 0);
        dueLog(x, 0, 0, 0, 5, 3);
        x.crash(2, 0);
        dueLog(x, 0, 0, 0, 5, 5);
    }

    static void p19ItsKnownEndStays() {
        TallyLogs x = made(FIVE_WITHOUT_2);
        dueLog(x, 2, 0, 0, 2, 2, 0, 3, 0);
    }

    // ---- promise 20: restart ----

    static void p20RefusedIfItIsUp() {
        for (int n : new int[] {0, 1, 3, 4}) {
            untouched("restart(" + n + ")", FIVE_WITHOUT_2, x -> x.restart(n), REFUSED);
        }
    }

    static void p20RefusedForAnotherNode() {
        for (int n : NOT_0_TO_4) {
            untouched("restart(" + n + ")", FIVE_WITHOUT_2, x -> x.restart(n), REFUSED);
        }
    }

    static void p20TakesNodes0To4() {
        TallyLogs x = new TallyLogs();
        for (int n = 0; n < 5; n++) {
            x.crash(n, 0);
        }
        Due.same("none is UP", x.count(1), 0);
        for (int n = 0; n < 5; n++) {
            Due.same("restart(" + n + ")", x.restart(n), 0);
            Due.same("UP", x.count(1), (2 << n) - 1);
        }
    }

    static void p20KnownEndsOfItAreMinus1() {
        TallyLogs x = new TallyLogs();
        for (int p = 0; p < 4; p++) {
            x.create(p, 3, 1);
            data(x, p);
            catchUp(x, 1, p);
        }
        x.crash(1, 9);
        x.restart(1);
        for (int p = 0; p < 4; p++) {
            dueLog(x, 1, p, 0, 1, 1, 0, -1, 0);
            dueLog(x, 0, p, 0, 1, 1, 0, 1, 0);
        }
    }

    static void p20ItLeadsNoMoreAndIsNotInStep() {
        TallyLogs x = made(FIVE);
        x.crash(0, 9);
        x.restart(0);
        dueState(x, 0, -1, 0, 6, -1);
        dueLog(x, 0, 0, 0, 5, 3, 0, -1, 0);
    }

    // ---- promise 22: log ----

    static void p22RefusedForOtherNodes() {
        for (int n : new int[] {MIN, -1, 3, 4, 5, MAX}) {
            for (int what = 0; what < 6; what++) {
                int asked = what;
                untouched("log(" + n + ")", FIVE, x -> x.log(n, 0, asked), REFUSED);
            }
        }
    }

    static void p22RefusedForOtherPartitions() {
        for (int p : new int[] {MIN, -1, 1, 3, 4, MAX}) {
            for (int what = 0; what < 6; what++) {
                int asked = what;
                untouched("log(0, " + p + ")", FIVE, x -> x.log(0, p, asked), REFUSED);
            }
        }
    }

    static void p22RefusedForAnotherWhat() {
        for (int what : NOT_0_TO_5) {
            for (int n = 0; n < 5; n++) {
                int node = n;
                untouched("what " + what, FIVE, x -> x.log(node, 0, what), REFUSED);
            }
        }
    }

    static void p22TakesWhat0To5() {
        TallyLogs x = made(FIVE);
        x.trim(0, 1);
        x.flush(0, 0);
        data(x, 0);
        dueLog(x, 0, 0, 1, 6, 3, 5, 6, 0);
        x.follow(1, 0);
        dueLog(x, 1, 0, 1, 6, 3, 1, 3, 0);
        x.follow(1, 0);
        dueLog(x, 1, 0, 1, 6, 3, 1, 6, 5);
    }

    static void p22OfANodeThatIsLost() {
        dueLog(made(FIVE_WITHOUT_2), 2, 0, 0, 2, 2, 0, 3, 0);
        TallyLogs x = made(FIVE);
        x.crash(0, 4);
        dueLog(x, 0, 0, 0, 4, 3, 0, 0, 0);
    }

    static void p22OfALogWith60Records() {
        dueLog(made(SIXTY), 3, 0, 1, 61, 61, 1, 61, 0);
    }

    // ---- promise 23: record ----

    static void p23OtherNodes() {
        for (int n : new int[] {MIN, -1, 3, 4, 5, MAX}) {
            for (int what = 0; what < 7; what++) {
                int asked = what;
                untouched("record(" + n + ")", FIVE, x -> x.record(n, 0, 0, asked), NO_RECORD);
            }
        }
    }

    static void p23OtherPartitions() {
        for (int p : new int[] {MIN, -1, 1, 3, 4, MAX}) {
            for (int what = 0; what < 7; what++) {
                int asked = what;
                untouched("record(0, " + p + ")", FIVE, x -> x.record(0, p, 0, asked), NO_RECORD);
            }
        }
    }

    static void p23OtherOffsets() {
        TallyLogs x = made(FIVE);
        x.trim(0, 2);
        for (int what = 0; what < 7; what++) {
            for (int offset : new int[] {MIN, -1, 0, 1, 5, 6, 62, MAX}) {
                Due.same("offset " + offset, x.record(0, 0, offset, what), NO_RECORD);
            }
            Due.same("the follower's END", x.record(1, 0, 3, what), NO_RECORD);
        }
        Due.same("at START", x.record(0, 0, 2, 1), 0);
        Due.same("before END", x.record(0, 0, 4, 1), 0);
        Due.same("the follower's START", x.record(1, 0, 0, 1), 0);
        Due.same("before the follower's END", x.record(1, 0, 2, 1), 0);
    }

    static void p23OtherWhats() {
        for (int what : new int[] {MIN, -1, 7, 8, MAX}) {
            for (int offset : new int[] {-1, 0, 4, 5}) {
                untouched("what " + what, FIVE, x -> x.record(0, 0, offset, what), NO_RECORD);
            }
        }
    }

    static void p23TakesWhat0To6() {
        TallyLogs x = made(FIVE);
        x.elect(0, false);
        x.register(4);
        x.begin(4);
        x.produce(0, 4, 0, 8, 9, false);
        x.finish(4, false);
        x.settle(4);
        dueRecord(x, 0, 0, 4, 0, 0, -1, -1, 0, 0, 0);
        dueRecord(x, 0, 0, 5, 1, 0, 4, 0, 8, 9, 1);
        dueRecord(x, 0, 0, 6, 1, 2, 4, -1, 0, 0, 0);
    }

    static void p23OfAnEmptyLog() {
        for (int offset : new int[] {MIN, -1, 0, 1, MAX}) {
            untouched("offset " + offset, x -> x.create(0, 1, 1), x -> x.record(0, 0, offset, 1), NO_RECORD);
        }
    }

    static void p23OfALogWith60Records() {
        TallyLogs x = made(SIXTY);
        Due.same("below START", x.record(3, 0, 0, 4), NO_RECORD);
        for (int offset = 1; offset <= ROOM; offset++) {
            Due.same("KEY", x.record(3, 0, offset, 4), offset);
            Due.same("VALUE", x.record(3, 0, offset, 5), -offset);
        }
        Due.same("END", x.record(3, 0, 61, 4), NO_RECORD);
    }

    // ---- promise 25: count ----

    static void p25RefusedForAnotherWhat() {
        for (int what : NOT_0_TO_7) {
            untouched("count(" + what + ")", FIVE, x -> x.count(what), REFUSED);
        }
    }

    static void p25TakesWhat0To7() {
        int[] due = {5, 27, 1, 0, 0, 0, 0, 2};
        Scene scene = x -> {
            FIVE_WITHOUT_2.on(x);
            x.register(0);
            x.begin(0);
            x.register(5);
            x.begin(5);
            x.finish(5, true);
            x.register(1);
        };
        for (int what = 0; what < due.length; what++) {
            int asked = what;
            untouched("count(" + what + ")", scene, x -> x.count(asked), due[what]);
        }
    }

    static void p25NoneIsUp() {
        TallyLogs x = new TallyLogs();
        for (int n = 0; n < 5; n++) {
            x.crash(n, 0);
        }
        Due.same("bits", x.count(1), 0);
    }
}
