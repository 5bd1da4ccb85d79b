/** The boundary cases of register, produce, begin, finish and settle, a test for each sentence that names one. */
public final class ProducerEdgesTest extends Steps {
    /** The greatest int that is a handle of producer 0, and of producer 5. */
    private static final int GREATEST_OF_0 = MAX - 7;
    private static final int GREATEST_OF_5 = MAX - 2;

    /** Partition 0 on nodes 0, 1 and 2, MIN 2; producer 0 has handle 8, and data with SEQ 0 and 1 in it. */
    private static final Scene TWO = x -> {
        x.create(0, 7, 2);
        x.register(0);
        x.register(0);
        x.produce(0, 8, 0, 10, 20, false);
        x.produce(0, 8, 1, 11, 21, false);
    };

    /** As TWO, but node 0 is alone IN STEP: less than MIN. */
    private static final Scene TWO_WITH_FEW = x -> {
        TWO.on(x);
        x.tick(11);
    };

    /** As TWO, without a leader. */
    private static final Scene TWO_WITHOUT_LEADER = x -> {
        TWO.on(x);
        x.crash(0, 9);
    };

    /** Partition 0 on node 0 with 60 records; the first has SEQ 0 of producer 0, whose handle is 0. */
    private static final Scene FULL_LOG = x -> {
        x.create(0, 1, 1);
        x.register(0);
        x.produce(0, 0, 0, 7, 8, false);
        produceMany(x, 0, 59);
    };

    /** Producer 0 has handle 8, producer 5 handle 5; partitions 0 to 3 on node 0. */
    private static final Scene FREE = x -> {
        for (int p = 0; p < 4; p++) {
            x.create(p, 1, 1);
        }
        x.register(0);
        x.register(0);
        x.register(5);
    };

    private static final Scene OPEN = x -> {
        FREE.on(x);
        x.begin(8);
        x.produce(0, 8, 0, 0, 0, false);
        x.produce(3, 8, 0, 0, 0, false);
    };

    private static final Scene ENDING_BY_COMMIT = x -> {
        OPEN.on(x);
        x.finish(8, true);
    };

    private static final Scene ENDING_BY_ABORT = x -> {
        OPEN.on(x);
        x.finish(8, false);
    };

    /** Its handle is 16 now. */
    private static final Scene ENDING_BY_REGISTER = x -> {
        OPEN.on(x);
        x.register(0);
    };

    public static void main(String[] args) throws IllegalAccessException {
        Suite.run(ProducerEdgesTest.class, 4, 5, 8, 9, 10);
    }

    private static int put(TallyLogs x, int p, int handle, int seq) {
        return x.produce(p, handle, seq, 0, 0, false);
    }

    // ---- promise 4: register ----

    static void p4RefusedForAnotherProducer() {
        for (int k : new int[] {MIN, -8, -1, 6, 7, 8, MAX}) {
            untouched("register(" + k + ")", OPEN, x -> x.register(k), REFUSED);
        }
    }

    static void p4TakesProducers0To5() {
        TallyLogs x = new TallyLogs();
        for (int generation = 0; generation < 20; generation++) {
            for (int k = 0; k < 6; k++) {
                Due.same("its HANDLE", x.register(k), 8 * generation + k);
            }
        }
    }

    static void p4TheGenerationIsMinus1AtFirst() {
        for (int k = 0; k < 6; k++) {
            int handle = k;
            Scene partition = x -> x.create(0, 1, 1);
            untouched("begin", partition, x -> x.begin(handle), WRONG);
            untouched("finish", partition, x -> x.finish(handle, true), WRONG);
            untouched("produce", partition, x -> put(x, 0, handle, 0), WRONG);
            untouched("below 0", partition, x -> x.begin(handle - 8), REFUSED);
        }
    }

    static void p4FreeStaysFree() {
        TallyLogs x = made(FREE);
        Due.same("register", x.register(0), 16);
        Due.same("FREE", x.count(2), 0);
        Due.same("nothing to settle", x.settle(0), NONE);
    }

    static void p4OpenIsEndingByAbort() {
        TallyLogs x = made(OPEN);
        Due.same("register", x.register(0), 16);
        Due.same("ENDING", x.count(2), 2);
        Due.same("the others are as they were", x.count(7), 0);
        Due.same("settled", x.settle(0), 0);
        dueRecord(x, 0, 0, 1, 0, 2, 0, -1, 0, 0, 0);
        dueRecord(x, 0, 3, 1, 0, 2, 0, -1, 0, 0, 0);
        Due.same("no other partition", x.log(0, 1, 1), 0);
        Due.same("no other partition", x.log(0, 2, 1), 0);
    }

    static void p4TheAbortIsOfTheElderGeneration() {
        TallyLogs x = made(OPEN);
        x.register(0);
        x.register(0);
        Due.same("not ended", x.state(0, 3), 0);
        x.settle(0);
        Due.same("ended", x.state(0, 3), 2);
        Due.same("aborted", x.consume(0, 0, true), NONE);
        Due.same("the last handle", x.begin(24), 0);
        put(x, 0, 24, 0);
        Due.same("the abort before it is not its END", x.state(0, 3), 2);
    }

    static void p4OpenWithoutPartitionsIsEnding() {
        TallyLogs x = made(FREE);
        x.begin(8);
        x.register(0);
        Due.same("ENDING", x.count(2), 2);
        Due.same("none is left", x.settle(0), 0);
        Due.same("FREE", x.count(2), 0);
    }

    static void p4EndingStaysByCommit() {
        TallyLogs x = made(ENDING_BY_COMMIT);
        Due.same("register", x.register(0), 16);
        Due.same("ENDING", x.count(2), 2);
        x.settle(0);
        Due.same("a commit", x.record(0, 0, 1, 1), 1);
        Due.same("of the elder generation", x.consume(0, 0, true), 0);
    }

    // ---- promise 5: produce, what is refused ----

    static void p5RefusedWithoutSuchAPartition() {
        for (int p : new int[] {MIN, -1, 1, 3, 4, MAX}) {
            untouched("by none to " + p, TWO, x -> data(x, p), REFUSED);
            untouched("by a handle to " + p, TWO, x -> put(x, p, 8, 0), REFUSED);
            untouched("by a wrong handle to " + p, TWO, x -> put(x, p, 0, 0), REFUSED);
        }
    }

    static void p5RefusedWithoutSuchAProducer() {
        for (int handle : NO_HANDLES) {
            untouched("handle " + handle, TWO, x -> put(x, 0, handle, 0), REFUSED);
            untouched("before NONE", TWO_WITHOUT_LEADER, x -> put(x, 0, handle, 0), REFUSED);
            untouched("before FEW", TWO_WITH_FEW, x -> x.produce(0, handle, 0, 0, 0, true), REFUSED);
        }
    }

    static void p5NoneWithoutALeader() {
        for (int handle : new int[] {-1, 0, 8, 16, 1, 5, GREATEST_OF_0, GREATEST_OF_5}) {
            for (int seq : new int[] {MIN, 0, 1, 2, 3, MAX}) {
                untouched("handle " + handle + ", seq " + seq, TWO_WITHOUT_LEADER, x -> put(x, 0, handle, seq), NONE);
            }
        }
    }

    static void p5NoneGoesBeforeWrongAndFew() {
        Scene lost = x -> {
            TWO_WITH_FEW.on(x);
            x.begin(8);
            x.finish(8, true);
            x.crash(0, 9);
        };
        untouched("ENDING", lost, x -> put(x, 0, 8, 2), NONE);
        untouched("few", lost, x -> x.produce(0, -1, 0, 0, 0, true), NONE);
    }

    static void p5WrongIfTheGenerationIsNotTheProducers() {
        for (int handle : new int[] {0, 16, 1, 5, 13, GREATEST_OF_0, GREATEST_OF_5}) {
            for (int seq : new int[] {MIN, -1, 0, 1, 2, MAX}) {
                untouched("handle " + handle + ", seq " + seq, TWO, x -> put(x, 0, handle, seq), WRONG);
            }
        }
    }

    static void p5WrongIfItIsEnding() {
        for (int seq : new int[] {0, 1, 2}) {
            untouched("commit", ENDING_BY_COMMIT, x -> put(x, 0, 8, seq), WRONG);
            untouched("abort", ENDING_BY_ABORT, x -> put(x, 0, 8, seq), WRONG);
            untouched("register", ENDING_BY_REGISTER, x -> put(x, 0, 16, seq), WRONG);
            untouched("register, elder", ENDING_BY_REGISTER, x -> put(x, 0, 8, seq), WRONG);
        }
        TallyLogs x = made(ENDING_BY_COMMIT);
        x.settle(0);
        Due.same("FREE again", put(x, 0, 8, 1), 2);
    }

    static void p5WrongGoesBeforeFew() {
        untouched("generation", TWO_WITH_FEW, x -> x.produce(0, 0, 0, 0, 0, true), WRONG);
        Scene ending = x -> {
            TWO_WITH_FEW.on(x);
            x.begin(8);
            x.finish(8, true);
        };
        untouched("ENDING", ending, x -> x.produce(0, 8, 2, 0, 0, true), WRONG);
    }

    static void p5FewIfLessThanMinAreInStep() {
        for (int min = 1; min <= 5; min++) {
            int least = min;
            Scene just = x -> {
                x.create(0, 31, least);
                for (int n = 4; n >= least; n--) {
                    x.crash(n, 0);
                }
            };
            TallyLogs x = made(just);
            Due.same("MIN are IN STEP", x.produce(0, -1, 0, 0, 0, true), 0);
            if (min > 1) {
                Scene less = y -> {
                    just.on(y);
                    y.crash(least - 1, 0);
                };
                untouched("one less", less, y -> y.produce(0, -1, 0, 0, 0, true), FEW);
                Due.same("all is not asked", data(made(less), 0), 0);
            }
        }
    }

    static void p5FewGoesBeforeRepeatsAndOrder() {
        for (int seq : new int[] {MIN, -1, 0, 1, 2, 3, MAX}) {
            untouched("seq " + seq, TWO_WITH_FEW, x -> x.produce(0, 8, seq, 0, 0, true), FEW);
        }
    }

    static void p5FewGoesBeforeFull() {
        Scene full = x -> {
            x.create(0, 3, 2);
            produceMany(x, 0, ROOM);
            x.tick(11);
        };
        untouched("all", full, x -> x.produce(0, -1, 0, 0, 0, true), FEW);
        untouched("not all", full, x -> data(x, 0), FULL);
    }

    static void p5ARepeatAnswersItsOffset() {
        untouched("the first", TWO, x -> x.produce(0, 8, 0, 98, 99, false), 0);
        untouched("the last", TWO, x -> x.produce(0, 8, 1, 98, 99, true), 1);
    }

    static void p5ARepeatBindsNothing() {
        TallyLogs x = made(TWO);
        x.begin(8);
        Due.same("a repeat", put(x, 0, 8, 1), 1);
        Due.same("still LOOSE", x.record(0, 0, 1, 6), 0);
        Due.same("no partition", x.finish(8, true), 0);
    }

    static void p5ARepeatIsOfTheSamePartitionProducerAndGeneration() {
        TallyLogs x = made(TWO);
        x.create(1, 1, 1);
        Due.same("another partition", put(x, 1, 8, 0), 0);
        x.register(1);
        Due.same("another producer", put(x, 0, 1, 0), 2);
        x.register(0);
        Due.same("another generation", put(x, 0, 16, 0), 3);
        Due.same("their own", put(x, 0, 1, 0), 2);
        Due.same("their own", put(x, 0, 16, 0), 3);
    }

    static void p5OrderIfNotOneMoreThanTheLast() {
        for (int seq : new int[] {MIN, MIN + 1, -2, -1, 3, 4, MAX - 1, MAX}) {
            untouched("seq " + seq, TWO, x -> put(x, 0, 8, seq), ORDER);
        }
        Due.same("one more", put(made(TWO), 0, 8, 2), 2);
    }

    static void p5OrderIfTheFirstIsNot0() {
        Scene younger = x -> {
            TWO.on(x);
            x.register(0);
        };
        for (int seq : new int[] {MIN, -1, 1, 2, MAX}) {
            untouched("seq " + seq, younger, x -> put(x, 0, 16, seq), ORDER);
        }
        Due.same("0", put(made(younger), 0, 16, 0), 2);
    }

    static void p5WhatIsTrimmedIsNotInTheLog() {
        Scene three = x -> {
            x.create(0, 1, 1);
            x.register(0);
            for (int seq = 0; seq < 3; seq++) {
                put(x, 0, 0, seq);
            }
            x.trim(0, 2);
        };
        untouched("trimmed", three, x -> put(x, 0, 0, 1), ORDER);
        untouched("at START", three, x -> put(x, 0, 0, 2), 2);
        Due.same("one more", put(made(three), 0, 0, 3), 3);
        Scene none = x -> {
            three.on(x);
            x.trim(0, 3);
        };
        untouched("the last, trimmed", none, x -> put(x, 0, 0, 2), ORDER);
        untouched("one more", none, x -> put(x, 0, 0, 3), ORDER);
        Due.same("0 without", put(made(none), 0, 0, 0), 3);
    }

    static void p5WhatIsLostIsNotInTheLog() {
        Scene lost = x -> {
            x.create(0, 3, 1);
            x.register(0);
            put(x, 0, 0, 0);
            x.follow(1, 0);
            put(x, 0, 0, 1);
            x.crash(0, 9);
            x.elect(0, false);
        };
        untouched("one more than what is lost", lost, x -> put(x, 0, 0, 2), ORDER);
        untouched("the new leader has it", lost, x -> put(x, 0, 0, 0), 0);
        TallyLogs x = made(lost);
        Due.same("what is lost comes", put(x, 0, 0, 1), 1);
        Due.same("with the new EPOCH", x.record(1, 0, 1, 0), 1);
    }

    static void p5ACommitIsNoData() {
        Scene committed = x -> {
            TWO.on(x);
            x.begin(8);
            put(x, 0, 8, 2);
            x.finish(8, true);
            x.settle(0);
        };
        untouched("SEQ -1 of a commit", committed, x -> put(x, 0, 8, -1), ORDER);
        untouched("0 again", committed, x -> put(x, 0, 8, 0), 0);
        Due.same("one more than the last data", put(made(committed), 0, 8, 3), 4);
    }

    static void p5FullWith60Records() {
        TallyLogs x = new TallyLogs();
        x.create(0, 1, 1);
        for (int i = 0; i < ROOM; i++) {
            Due.same("taken", data(x, 0), i);
        }
        untouched("by none", FULL_LOG, y -> data(y, 0), FULL);
        untouched("by a handle", FULL_LOG, y -> put(y, 0, 0, 1), FULL);
        untouched("all", FULL_LOG, y -> y.produce(0, -1, 0, 0, 0, true), FULL);
    }

    static void p5FullCountsCommitsToo() {
        Scene scene = x -> {
            x.create(0, 1, 1);
            x.register(0);
            x.begin(0);
            put(x, 0, 0, 0);
            produceMany(x, 0, 57);
            x.finish(0, true);
            x.settle(0);
        };
        TallyLogs x = made(scene);
        Due.same("59 records", x.log(0, 0, 1), 59);
        Due.same("the sixtieth", data(x, 0), 59);
        Due.same("FULL", data(x, 0), FULL);
    }

    static void p5RepeatsAndOrderGoBeforeFull() {
        untouched("a repeat", FULL_LOG, x -> put(x, 0, 0, 0), 0);
        for (int seq : new int[] {MIN, -1, 2, MAX}) {
            untouched("seq " + seq, FULL_LOG, x -> put(x, 0, 0, seq), ORDER);
        }
    }

    static void p5AsManyComeAsWereTrimmed() {
        TallyLogs x = made(FULL_LOG);
        x.trim(0, 1);
        Due.same("one", x.produce(0, -1, 0, 3, 4, false), 60);
        Due.same("FULL", data(x, 0), FULL);
        dueRecord(x, 0, 0, 60, 0, 0, -1, -1, 3, 4, 0);
        Due.same("the first", x.record(0, 0, 1, 2), -1);
        Due.same("trimmed", x.record(0, 0, 0, 2), NO_RECORD);
    }

    // ---- promise 5: produce, what comes ----

    static void p5ByNoneWhateverSeqIsTold() {
        TallyLogs x = new TallyLogs();
        x.create(0, 1, 1);
        int[] seqs = {MIN, -1, 0, 0, 1, 7, MAX};
        for (int i = 0; i < seqs.length; i++) {
            Due.same("seq " + seqs[i], x.produce(0, -1, seqs[i], 5, 6, true), i);
            dueRecord(x, 0, 0, i, 0, 0, -1, -1, 5, 6, 0);
            Due.same("consume", x.consume(0, i, false), i);
            dueSeen(x, 0, -1, -1, -1, 5, 6);
        }
    }

    static void p5TakesKeysAndValuesOfAllInts() {
        TallyLogs x = new TallyLogs();
        x.create(3, 16, 1);
        x.register(5);
        Due.same("the least key", x.produce(3, 5, 0, MIN, MAX, false), 0);
        Due.same("the greatest key", x.produce(3, 5, 1, MAX, MIN, false), 1);
        dueRecord(x, 4, 3, 0, 0, 0, 5, 0, MIN, MAX, 0);
        dueRecord(x, 4, 3, 1, 0, 0, 5, 1, MAX, MIN, 0);
    }

    static void p5BoundIfTheProducerIsOpen() {
        TallyLogs x = made(FREE);
        put(x, 0, 8, 0);
        x.begin(8);
        put(x, 0, 8, 1);
        put(x, 0, 5, 0);
        data(x, 0);
        int[] bound = {0, 1, 0, 0};
        for (int offset = 0; offset < bound.length; offset++) {
            Due.same("BOUND " + offset, x.record(0, 0, offset, 6), bound[offset]);
        }
        Due.same("one partition", x.finish(8, true), 1);
    }

    static void p5ARefusalBindsNothing() {
        TallyLogs x = made(FULL_LOG);
        x.create(1, 3, 2);
        x.crash(1, 0);
        x.begin(0);
        Due.same("FULL", put(x, 0, 0, 1), FULL);
        Due.same("ORDER", put(x, 1, 0, 1), ORDER);
        Due.same("FEW", x.produce(1, 0, 0, 0, 0, true), FEW);
        Due.same("no partition", x.finish(0, true), 0);
    }

    static void p5HwRisesIfTheLeaderIsAloneInStep() {
        TallyLogs x = made(TWO_WITH_FEW);
        dueLog(x, 0, 0, 0, 2, 2);
        data(x, 0);
        dueLog(x, 0, 0, 0, 3, 3, 0, 3);
        TallyLogs y = made(TWO);
        data(y, 0);
        dueLog(y, 0, 0, 0, 3, 0, 0, 3);
    }

    static void p5TheEpochIsThePartitionsWhenItCame() {
        TallyLogs x = made(TWO);
        x.elect(0, false);
        put(x, 0, 8, 2);
        x.elect(0, false);
        x.elect(0, false);
        data(x, 0);
        int[] epochs = {0, 0, 1, 3};
        for (int offset = 0; offset < epochs.length; offset++) {
            Due.same("EPOCH " + offset, x.record(0, 0, offset, 0), epochs[offset]);
        }
    }

    // ---- promise 8: begin ----

    static void p8RefusedForNoHandle() {
        untouched("none", FREE, x -> x.begin(-1), REFUSED);
        for (int handle : NO_HANDLES) {
            untouched("handle " + handle, FREE, x -> x.begin(handle), REFUSED);
        }
    }

    static void p8WrongIfTheGenerationIsAnother() {
        for (int handle : new int[] {0, 16, 13, 1, 9, GREATEST_OF_0, GREATEST_OF_5}) {
            untouched("handle " + handle, FREE, x -> x.begin(handle), WRONG);
        }
    }

    static void p8WrongIfItIsNotFree() {
        untouched("OPEN", OPEN, x -> x.begin(8), WRONG);
        untouched("by commit", ENDING_BY_COMMIT, x -> x.begin(8), WRONG);
        untouched("by abort", ENDING_BY_ABORT, x -> x.begin(8), WRONG);
        untouched("by register", ENDING_BY_REGISTER, x -> x.begin(16), WRONG);
        untouched("by register, elder", ENDING_BY_REGISTER, x -> x.begin(8), WRONG);
    }

    static void p8TakesProducers0And5() {
        TallyLogs x = made(FREE);
        Due.same("0", x.begin(8), 0);
        Due.same("5", x.begin(5), 0);
        Due.same("0 is OPEN", x.count(2), 1);
        Due.same("5 is OPEN", x.count(7), 1);
    }

    static void p8BeginsWithoutPartitions() {
        TallyLogs x = made(ENDING_BY_COMMIT);
        x.settle(0);
        Due.same("begin", x.begin(8), 0);
        Due.same("none", x.finish(8, true), 0);
    }

    // ---- promise 9: finish ----

    static void p9RefusedForNoHandle() {
        untouched("none", OPEN, x -> x.finish(-1, true), REFUSED);
        for (int handle : NO_HANDLES) {
            untouched("handle " + handle, OPEN, x -> x.finish(handle, true), REFUSED);
        }
    }

    static void p9WrongIfTheGenerationIsAnother() {
        for (int handle : new int[] {0, 16, 13, 1, 9, GREATEST_OF_0, GREATEST_OF_5}) {
            untouched("handle " + handle, OPEN, x -> x.finish(handle, false), WRONG);
        }
    }

    static void p9WrongIfItIsNotOpen() {
        untouched("FREE", FREE, x -> x.finish(8, true), WRONG);
        untouched("by commit", ENDING_BY_COMMIT, x -> x.finish(8, false), WRONG);
        untouched("by abort", ENDING_BY_ABORT, x -> x.finish(8, true), WRONG);
        untouched("by register", ENDING_BY_REGISTER, x -> x.finish(16, true), WRONG);
        untouched("by register, elder", ENDING_BY_REGISTER, x -> x.finish(8, true), WRONG);
    }

    static void p9NoneToFourPartitions() {
        for (int many = 0; many <= 4; many++) {
            for (int handle : new int[] {8, 5}) {
                TallyLogs x = made(FREE);
                x.begin(handle);
                for (int p = 0; p < many; p++) {
                    put(x, p, handle, 0);
                    put(x, p, handle, 1);
                }
                Due.same(many + " partitions", x.finish(handle, true), many);
                Due.same("ENDING", x.count(2 + handle % 8), 2);
            }
        }
    }

    // ---- promise 10: settle ----

    static void p10RefusedForAnotherProducer() {
        for (int k : new int[] {MIN, -1, 6, 7, 8, MAX}) {
            untouched("settle(" + k + ")", ENDING_BY_COMMIT, x -> x.settle(k), REFUSED);
        }
    }

    static void p10NoneIfItIsNotEnding() {
        for (int k = 0; k < 6; k++) {
            int asked = k;
            untouched("FREE", FREE, x -> x.settle(asked), NONE);
        }
        untouched("OPEN", OPEN, x -> x.settle(0), NONE);
        untouched("another", ENDING_BY_COMMIT, x -> x.settle(5), NONE);
        Scene settled = x -> {
            ENDING_BY_COMMIT.on(x);
            x.settle(0);
        };
        untouched("FREE again", settled, x -> x.settle(0), NONE);
    }

    static void p10ACommitOrAbortComesToEachPartition() {
        TallyLogs x = made(ENDING_BY_COMMIT);
        Due.same("settle", x.settle(0), 0);
        TallyLogs y = made(ENDING_BY_ABORT);
        Due.same("settle", y.settle(0), 0);
        for (int p : new int[] {0, 3}) {
            dueRecord(x, 0, p, 1, 0, 1, 0, -1, 0, 0, 0);
            dueRecord(y, 0, p, 1, 0, 2, 0, -1, 0, 0, 0);
            dueLog(x, 0, p, 0, 2, 2, 0, 2, 0);
        }
        for (int p : new int[] {1, 2}) {
            Due.same("not there", x.log(0, p, 1), 0);
        }
        Due.same("FREE", x.count(2), 0);
    }

    static void p10WithNoneLeftItIsFree() {
        TallyLogs x = made(FREE);
        x.begin(5);
        x.finish(5, true);
        Due.same("without partitions", x.settle(5), 0);
        Due.same("FREE", x.count(7), 0);
        for (int p = 0; p < 4; p++) {
            Due.same("nothing came", x.log(0, p, 1), 0);
        }
    }

    static void p10With60RecordsItIsLeft() {
        Scene full = x -> {
            x.create(0, 1, 1);
            x.register(0);
            x.begin(0);
            put(x, 0, 0, 0);
            produceMany(x, 0, 59);
            x.finish(0, true);
        };
        untouched("FULL", full, x -> x.settle(0), 1);
        TallyLogs x = made(full);
        x.settle(0);
        Due.same("ENDING", x.count(2), 2);
        x.trim(0, 1);
        Due.same("59 records", x.settle(0), 0);
        Due.same("FREE", x.count(2), 0);
        dueRecord(x, 0, 0, 60, 0, 1, 0, -1, 0, 0, 0);
        dueLog(x, 0, 0, 1, 61, 61);
    }

    static void p10WithoutALeaderItIsLeft() {
        Scene lost = x -> {
            x.create(0, 1, 1);
            x.create(1, 2, 1);
            x.register(0);
            x.begin(0);
            put(x, 0, 0, 0);
            put(x, 1, 0, 0);
            x.finish(0, false);
            x.crash(0, 9);
        };
        TallyLogs x = made(lost);
        Due.same("one is left", x.settle(0), 1);
        Due.same("the other got it", x.record(1, 1, 1, 1), 2);
        Due.same("it did not", x.log(0, 0, 1), 1);
        x.restart(0);
        Due.same("UP is not enough", x.settle(0), 1);
        x.elect(0, false);
        Due.same("it leads", x.settle(0), 0);
        dueRecord(x, 0, 0, 1, 1, 2, 0, -1, 0, 0, 0);
        Due.same("the other got no second one", x.log(1, 1, 1), 2);
    }

    static void p10OneToFourAreLeft() {
        for (int many = 1; many <= 4; many++) {
            TallyLogs x = made(FREE);
            x.begin(8);
            for (int p = 0; p < many; p++) {
                put(x, p, 8, 0);
            }
            x.finish(8, true);
            x.crash(0, 9);
            Due.same("all are left", x.settle(0), many);
            x.restart(0);
            for (int p = 0; p < many; p++) {
                x.elect(p, false);
                Due.same("one less", x.settle(0), many - 1 - p);
            }
            Due.same("FREE", x.count(2), 0);
        }
    }

    static void p10HwRisesIfTheLeaderIsAloneInStep() {
        TallyLogs x = new TallyLogs();
        x.create(0, 3, 1);
        x.create(1, 1, 1);
        x.register(0);
        x.begin(0);
        put(x, 0, 0, 0);
        put(x, 1, 0, 0);
        x.finish(0, true);
        x.settle(0);
        dueLog(x, 0, 0, 0, 2, 0);
        dueLog(x, 0, 1, 0, 2, 2);
    }
}
