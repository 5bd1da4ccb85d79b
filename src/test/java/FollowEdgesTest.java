/** The boundary cases of follow, a test for each sentence that names one. */
public final class FollowEdgesTest extends Steps {
    /** Partition 0 on nodes 0, 1 and 2; node 0 leads with three records that no other has. */
    private static final Scene THREE = x -> {
        x.create(0, 7, 1);
        produceMany(x, 0, 3);
    };

    /** Node 1 has three records, flushed, and is not IN STEP; node 0 leads with ten, HW 10. NOW is 11. */
    private static final Scene BEHIND = x -> {
        x.create(0, 3, 1);
        produceMany(x, 0, 3);
        x.follow(1, 0);
        x.flush(1, 0);
        x.tick(11);
        produceMany(x, 0, 7);
    };

    public static void main(String[] args) throws IllegalAccessException {
        Suite.run(FollowEdgesTest.class, 7);
    }

    /**
     * Node 1 has five records of EPOCH 0, flushed of them are flushed, HW 5; node 0 leads with kept of them and
     * more of EPOCH 1.
     */
    private static TallyLogs parted(int kept, int more, int flushed) {
        TallyLogs x = new TallyLogs();
        x.create(0, 3, 1);
        produceMany(x, 0, flushed);
        catchUp(x, 1, 0);
        x.flush(1, 0);
        produceMany(x, 0, 5 - flushed);
        catchUp(x, 1, 0);
        x.crash(0, kept);
        x.crash(1, 9);
        x.restart(0);
        x.elect(0, true);
        produceMany(x, 0, more);
        x.restart(1);
        dueLog(x, 0, 0, 0, kept + more, kept + more, 0, kept + more, 0);
        dueLog(x, 1, 0, 0, 5, 5, flushed, -1, 0);
        return x;
    }

    static void p7RefusedIfItIsNoReplica() {
        for (int n : new int[] {MIN, -1, 3, 4, 5, MAX}) {
            untouched("follow(" + n + ")", THREE, x -> x.follow(n, 0), REFUSED);
        }
    }

    static void p7RefusedIfItIsNotUp() {
        Scene down = x -> {
            THREE.on(x);
            x.crash(1, 0);
        };
        untouched("follow", down, x -> x.follow(1, 0), REFUSED);
        TallyLogs x = made(down);
        x.restart(1);
        Due.same("UP again", x.follow(1, 0), 3);
    }

    static void p7RefusedIfItIsTheLeader() {
        untouched("follow", THREE, x -> x.follow(0, 0), REFUSED);
        Scene second = x -> {
            THREE.on(x);
            x.crash(0, 0);
            x.elect(0, false);
            x.restart(0);
        };
        untouched("another leader", second, x -> x.follow(1, 0), REFUSED);
        Due.same("the elder leader", made(second).follow(0, 0), 0);
    }

    static void p7RefusedWithoutSuchAPartition() {
        for (int p : new int[] {MIN, -1, 1, 3, 4, MAX}) {
            untouched("follow(1, " + p + ")", THREE, x -> x.follow(1, p), REFUSED);
        }
    }

    static void p7NoneWithoutALeader() {
        Scene lost = x -> {
            THREE.on(x);
            x.follow(1, 0);
            x.crash(0, 9);
        };
        untouched("IN STEP", lost, x -> x.follow(1, 0), NONE);
        Scene back = x -> {
            lost.on(x);
            x.restart(0);
        };
        untouched("the elder leader, UP again", back, x -> x.follow(0, 0), NONE);
    }

    static void p7RefusedGoesBeforeNone() {
        Scene lost = x -> {
            THREE.on(x);
            x.crash(0, 9);
        };
        for (int n : new int[] {MIN, -1, 0, 3, 4, 5, MAX}) {
            untouched("follow(" + n + ")", lost, x -> x.follow(n, 0), REFUSED);
        }
    }

    static void p7OfAnEmptyLog() {
        TallyLogs x = new TallyLogs();
        x.create(0, 3, 1);
        x.tick(9);
        Due.same("nothing to get", x.follow(1, 0), 0);
        dueLog(x, 1, 0, 0, 0, 0, 0, 0, 9);
        dueState(x, 0, 0, 0, 3, 0);
    }

    static void p7GetsAtMost5() {
        int[] held = {0, 1, 4, 5, 6, 10, 11};
        for (int many : held) {
            TallyLogs x = new TallyLogs();
            x.create(0, 3, 1);
            produceMany(x, 0, many);
            int first = Math.min(5, many);
            int second = Math.min(5, many - first);
            Due.same("first of " + many, x.follow(1, 0), first);
            dueLog(x, 1, 0, 0, first, 0, 0, 0, 0);
            Due.same("second of " + many, x.follow(1, 0), second);
            dueLog(x, 1, 0, 0, first + second, first, 0, first, 0);
        }
    }

    static void p7GetsALogWith60Records() {
        TallyLogs x = new TallyLogs();
        x.create(0, 3, 1);
        for (int i = 0; i < ROOM; i++) {
            x.produce(0, -1, 0, i, -i, false);
        }
        for (int i = 0; i < 12; i++) {
            Due.same("five", x.follow(1, 0), 5);
        }
        Due.same("none", x.follow(1, 0), 0);
        dueLog(x, 1, 0, 0, 60, 60, 0, 60, 0);
        x.trim(0, 5);
        for (int i = 0; i < 5; i++) {
            x.produce(0, -1, 0, 60 + i, -60 - i, false);
        }
        Due.same("five more", x.follow(1, 0), 5);
        dueLog(x, 1, 0, 5, 65, 60, 5, 60, 0);
        for (int i = 5; i < 65; i++) {
            Due.same("KEY " + i, x.record(1, 0, i, 4), i);
            Due.same("VALUE " + i, x.record(1, 0, i, 5), -i);
        }
        Due.same("gone", x.record(1, 0, 4, 4), NO_RECORD);
        Due.same("above END", x.record(1, 0, 65, 4), NO_RECORD);
    }

    static void p7EndOneBelowTheLeadersStartIsEmptyFromThere() {
        TallyLogs x = made(BEHIND);
        x.trim(0, 4);
        Due.same("from START", x.follow(1, 0), 5);
        dueLog(x, 1, 0, 4, 9, 9, 4, 4, 0);
        Due.same("gone", x.record(1, 0, 2, 0), NO_RECORD);
        Due.same("never there", x.record(1, 0, 3, 0), NO_RECORD);
        Due.same("at START", x.record(1, 0, 4, 0), 0);
    }

    static void p7EndAtTheLeadersStart() {
        TallyLogs x = made(BEHIND);
        x.trim(0, 3);
        Due.same("the next ones", x.follow(1, 0), 5);
        dueLog(x, 1, 0, 3, 8, 8, 3, 3, 0);
        Due.same("gone", x.record(1, 0, 2, 0), NO_RECORD);
        Due.same("at START", x.record(1, 0, 3, 0), 0);
    }

    static void p7EndOneAboveTheLeadersStart() {
        TallyLogs x = made(BEHIND);
        x.trim(0, 2);
        Due.same("the next ones", x.follow(1, 0), 5);
        dueLog(x, 1, 0, 2, 8, 8, 3, 3, 0);
        Due.same("gone", x.record(1, 0, 1, 0), NO_RECORD);
        Due.same("at START", x.record(1, 0, 2, 0), 0);
    }

    static void p7OfALeaderWhoseStartIsItsEnd() {
        TallyLogs x = made(BEHIND);
        x.trim(0, 10);
        Due.same("nothing to get", x.follow(1, 0), 0);
        dueLog(x, 1, 0, 10, 10, 10, 10, 10, 11);
        dueState(x, 0, 0, 0, 3, 10);
    }

    static void p7StartAboveTheLeadersEnd() {
        TallyLogs x = made(BEHIND);
        x.trim(0, 5);
        x.flush(0, 0);
        x.crash(0, 0);
        x.elect(0, true);
        x.restart(0);
        Due.same("the leader has none of it", x.follow(0, 0), 0);
        dueLog(x, 0, 0, 5, 5, 3, 5, 5, 11);
        dueState(x, 0, 1, 1, 3, 3);
        produceMany(x, 0, 2);
        Due.same("END at its START", x.follow(0, 0), 0);
        dueLog(x, 0, 0, 5, 5, 5, 5, 5, 11);
        data(x, 0);
        Due.same("one above", x.follow(0, 0), 1);
        dueLog(x, 0, 0, 5, 6, 5, 5, 5, 11);
    }

    static void p7WhatTheLeaderHasNotGoes() {
        for (int kept = 0; kept <= 5; kept++) {
            TallyLogs x = parted(kept, 0, 0);
            x.tick(1);
            Due.same("nothing to get", x.follow(1, 0), 0);
            dueLog(x, 1, 0, 0, kept, kept, 0, kept, 1);
            dueState(x, 0, 0, 1, 3, kept);
            Due.same("gone", x.record(1, 0, kept, 0), NO_RECORD);
        }
    }

    static void p7WhatHasAnotherEpochGoes() {
        for (int kept = 0; kept <= 5; kept++) {
            TallyLogs x = parted(kept, 1, 0);
            x.tick(1);
            Due.same("one", x.follow(1, 0), 1);
            dueLog(x, 1, 0, 0, kept + 1, kept + 1, 0, kept, 0);
            dueState(x, 0, 0, 1, 1, kept + 1);
            Due.same("the leader's", x.record(1, 0, kept, 0), 1);
            Due.same("both had it", x.record(1, 0, kept - 1, 0), kept == 0 ? NO_RECORD : 0);
        }
    }

    static void p7AllBehindTheFirstOtherEpochGo() {
        TallyLogs x = parted(2, 9, 0);
        Due.same("five", x.follow(1, 0), 5);
        dueLog(x, 1, 0, 0, 7, 7, 0, 2, 0);
        int[] epochs = {0, 0, 1, 1, 1, 1, 1};
        for (int offset = 0; offset < epochs.length; offset++) {
            Due.same("EPOCH " + offset, x.record(1, 0, offset, 0), epochs[offset]);
        }
    }

    static void p7FlushedIsAtMostEndThen() {
        int[] flushed = {0, 1, 2, 3, 5};
        int[] due = {0, 1, 2, 2, 2};
        for (int i = 0; i < flushed.length; i++) {
            TallyLogs x = parted(2, 1, flushed[i]);
            x.follow(1, 0);
            dueLog(x, 1, 0, 0, 3, 3, due[i], 2, 0);
        }
    }

    static void p7FlushedIsAtLeastStart() {
        for (int start = 0; start <= 5; start++) {
            TallyLogs x = made(BEHIND);
            x.trim(0, start);
            x.follow(1, 0);
            Due.same("START", x.log(1, 0, 0), start);
            Due.same("FLUSHED", x.log(1, 0, 3), Math.max(3, start));
        }
    }

    static void p7CaughtIsNowIfItsEndIsTheLeaders() {
        TallyLogs x = made(THREE);
        x.tick(4);
        x.follow(1, 0);
        Due.same("END was 0", x.log(1, 0, 5), 0);
        x.tick(1);
        x.follow(1, 0);
        Due.same("END was the leader's", x.log(1, 0, 5), 5);
        data(x, 0);
        x.tick(1);
        x.follow(1, 0);
        Due.same("END was one less", x.log(1, 0, 5), 5);
    }

    static void p7InStepIfItsEndIsNotBelowTheLeadersHw() {
        int[] kept = {0, 2, 3, 4, 5};
        int[] inStep = {5, 5, 7, 7, 7};
        for (int i = 0; i < kept.length; i++) {
            TallyLogs x = made(THREE);
            catchUp(x, 1, 0);
            catchUp(x, 2, 0);
            produceMany(x, 0, 3);
            x.follow(1, 0);
            x.crash(1, kept[i]);
            x.restart(1);
            dueState(x, 0, 0, 0, 5, 6);
            dueLog(x, 0, 0, 0, 6, 3);
            x.follow(1, 0);
            dueState(x, 0, 0, 0, inStep[i], 6);
            Due.same("KNOWN end", x.log(1, 0, 4), kept[i]);
        }
    }

    static void p7WhatItGetsInTheSameCallDoesNotBringItInStep() {
        TallyLogs x = parted(2, 3, 0);
        dueState(x, 0, 0, 1, 1, 5);
        Due.same("all that is missing", x.follow(1, 0), 3);
        Due.same("not IN STEP", x.state(0, 2), 1);
        Due.same("nothing", x.follow(1, 0), 0);
        Due.same("IN STEP", x.state(0, 2), 3);
    }

    static void p7TheLeadersHwRisesBeforeItGetsAny() {
        TallyLogs x = new TallyLogs();
        x.create(0, 3, 1);
        produceMany(x, 0, 7);
        x.follow(1, 0);
        dueLog(x, 0, 0, 0, 7, 0);
        x.follow(1, 0);
        dueLog(x, 0, 0, 0, 7, 5);
        dueLog(x, 1, 0, 0, 7, 5);
        x.follow(1, 0);
        dueLog(x, 0, 0, 0, 7, 7);
        dueLog(x, 1, 0, 0, 7, 7);
    }

    static void p7ItsHwIsTheLeadersOrItsEnd() {
        TallyLogs x = made(BEHIND);
        x.follow(1, 0);
        dueLog(x, 1, 0, 0, 8, 8);
        x.follow(1, 0);
        dueLog(x, 1, 0, 0, 10, 10);
        TallyLogs y = made(THREE);
        y.follow(1, 0);
        dueLog(y, 1, 0, 0, 3, 0);
    }
}
