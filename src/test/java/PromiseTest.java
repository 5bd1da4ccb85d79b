/** For each promise of the document: ordinary inputs, the edges that it names, and wrong inputs. */
public final class PromiseTest extends Steps {
    private static final int[] OUTSIDE = {-1, -2, 4, 5, 6, 8, 31, 32, 33, Integer.MAX_VALUE, Integer.MIN_VALUE};

    public static void main(String[] args) {
        newObject();
        create();
        createWithNodesDown();
        elect();
        electUnclean();
        electKnownEnds();
        register();
        registerWhileEnding();
        produce();
        produceOrderOfRefusals();
        produceFew();
        produceRepeats();
        produceFull();
        safe();
        follow();
        followGetsFive();
        followCutsOtherEpochs();
        followFromBelowStart();
        followFromAboveEnd();
        begin();
        finish();
        settle();
        settleWhatIsLeft();
        consume();
        consumeCommitted();
        consumeEndOfElderGeneration();
        seen();
        member();
        owner();
        move();
        position();
        tick();
        flush();
        crash();
        crashInStep();
        restart();
        trim();
        log();
        record();
        state();
        count();
        Due.end();
    }

    private static void newObject() {
        Due.about("promise 1");
        TallyLogs x = new TallyLogs();
        Due.same("all UP", x.count(1), 31);
        Due.same("NOW", x.count(0), 0);
        for (int p = 0; p < 4; p++) {
            Due.same("no partition", x.state(p, 0), TallyLogs.REFUSED);
        }
        for (int k = 0; k < 6; k++) {
            Due.same("FREE", x.count(2 + k), 0);
        }
        TallyLogs y = new TallyLogs();
        x.create(0, 1, 1);
        Due.same("objects have nothing in common", y.state(0, 0), TallyLogs.REFUSED);
    }

    private static void create() {
        Due.about("promise 2");
        TallyLogs x = new TallyLogs();
        for (int p : OUTSIDE) {
            Due.same("create(" + p + ")", x.create(p, 31, 1), TallyLogs.REFUSED);
        }
        Due.same("no replicas", x.create(0, 0, 1), TallyLogs.REFUSED);
        Due.same("no replicas, min 0", x.create(0, 0, 0), TallyLogs.REFUSED);
        Due.same("bits above the lowest five", x.create(0, 32, 1), TallyLogs.REFUSED);
        Due.same("min 0", x.create(0, 6, 0), TallyLogs.REFUSED);
        Due.same("min -1", x.create(0, 6, -1), TallyLogs.REFUSED);
        Due.same("min 3 of 2", x.create(0, 6, 3), TallyLogs.REFUSED);
        Due.same("still none", x.state(0, 0), TallyLogs.REFUSED);
        x.tick(7);
        Due.same("min 2 of 2", x.create(0, 6, 2), 1);
        dueState(x, 0, 1, 0, 6, 0);
        dueLog(x, 1, 0, 0, 0, 0, 0, 0, 7);
        dueLog(x, 2, 0, 0, 0, 0, 0, 0, 7);
        dueLog(x, 0, 0, -1, -1, -1, -1, -1, -1);
        Due.same("there", x.create(0, 6, 2), TallyLogs.REFUSED);
        Due.same("all bits", x.create(3, -1, 5), 0);
        dueState(x, 3, 0, 0, 31, 0);
        Due.same("more bits", x.create(1, 32 + 16, 1), 4);
        dueState(x, 1, 4, 0, 16, 0);
    }

    private static void createWithNodesDown() {
        Due.about("promise 2, nodes down");
        TallyLogs x = new TallyLogs();
        x.crash(0, 0);
        x.crash(2, 0);
        Due.same("none UP", x.create(0, 5, 1), TallyLogs.NONE);
        Due.same("REFUSED before NONE", x.create(0, 5, 3), TallyLogs.REFUSED);
        Due.same("nothing came", x.state(0, 1), TallyLogs.REFUSED);
        Due.same("the least UP", x.create(0, 15, 4), 1);
        dueState(x, 0, 1, 0, 10, 0);
        dueLog(x, 0, 0, 0, 0, 0, 0, 0, 0);
        Due.same("less than MIN are IN STEP", x.produce(0, -1, 0, 0, 0, true), TallyLogs.FEW);
    }

    private static void elect() {
        Due.about("promise 3");
        TallyLogs x = new TallyLogs();
        for (int p : OUTSIDE) {
            Due.same("elect(" + p + ")", x.elect(p, true), TallyLogs.REFUSED);
        }
        Due.same("not there", x.elect(0, false), TallyLogs.REFUSED);
        x.create(0, 14, 1);
        produceMany(x, 0, 3);
        x.follow(2, 0);
        x.follow(2, 0);
        x.tick(4);
        Due.same("the same again", x.elect(0, true), 1);
        dueState(x, 0, 1, 1, 14, 3);
        dueLog(x, 1, 0, 0, 3, 0, 0, 3, 4);
        dueLog(x, 2, 0, 0, 3, 0, 0, -1, 4);
        dueLog(x, 3, 0, 0, 0, 0, 0, -1, 4);
        x.crash(1, 9);
        Due.same("the least IN STEP", x.elect(0, false), 2);
        dueState(x, 0, 2, 2, 12, 3);
        dueLog(x, 2, 0, 0, 3, 0, 0, 3, 4);
        x.restart(1);
        Due.same("UP, not IN STEP", x.elect(0, true), 2);
        dueState(x, 0, 2, 3, 12, 3);
        Due.same("records have the new epoch", data(x, 0), 3);
        Due.same("epoch", x.record(2, 0, 3, 0), 3);
        Due.same("elder epoch", x.record(2, 0, 2, 0), 0);
    }

    private static void electUnclean() {
        Due.about("promise 3, unclean");
        TallyLogs x = new TallyLogs();
        x.create(0, 7, 1);
        produceMany(x, 0, 4);
        x.follow(2, 0);
        x.tick(11);
        dueState(x, 0, 0, 0, 1, 4);
        x.crash(0, 0);
        dueState(x, 0, -1, 0, 1, -1);
        Due.same("none IN STEP is UP", x.elect(0, false), TallyLogs.NONE);
        dueState(x, 0, -1, 0, 1, -1);
        dueLog(x, 2, 0, 0, 4, 0, 0, 0, 0);
        x.crash(1, 0);
        Due.same("the least UP", x.elect(0, true), 2);
        dueState(x, 0, 2, 1, 4, 4);
        dueLog(x, 2, 0, 0, 4, 4, 0, 4, 11);
        dueLog(x, 1, 0, 0, 0, 0, 0, -1, 11);
        x.crash(2, 0);
        Due.same("none UP", x.elect(0, true), TallyLogs.NONE);
        dueState(x, 0, -1, 1, 4, -1);
        x.restart(2);
        x.restart(0);
        Due.same("one IN STEP goes before a lesser one", x.elect(0, true), 2);
        dueState(x, 0, 2, 2, 4, 0);
    }

    private static void electKnownEnds() {
        Due.about("promise 3, known ends");
        TallyLogs x = new TallyLogs();
        x.create(0, 3, 1);
        produceMany(x, 0, 3);
        x.follow(1, 0);
        x.follow(1, 0);
        dueLog(x, 1, 0, 0, 3, 3, 0, 3, 0);
        x.crash(0, 0);
        x.elect(0, false);
        produceMany(x, 0, 2);
        dueLog(x, 1, 0, 0, 5, 5, 0, 5, 0);
        x.crash(1, 9);
        Due.same("its own was left as it was", x.log(1, 0, 4), 3);
        Due.same("the other's is not known", x.log(0, 0, 4), -1);
    }

    private static void register() {
        Due.about("promise 4");
        TallyLogs x = new TallyLogs();
        for (int k : new int[] {-1, 6, 7, 8, Integer.MAX_VALUE, Integer.MIN_VALUE}) {
            Due.same("register(" + k + ")", x.register(k), TallyLogs.REFUSED);
        }
        for (int k = 0; k < 6; k++) {
            Due.same("first handle", x.register(k), k);
            Due.same("second handle", x.register(k), 8 + k);
            Due.same("FREE", x.count(2 + k), 0);
        }
        x.create(0, 1, 1);
        x.begin(8 + 5);
        x.produce(0, 8 + 5, 0, 1, 1, false);
        Due.same("OPEN", x.count(7), 1);
        Due.same("third handle", x.register(5), 16 + 5);
        Due.same("ENDING", x.count(7), 2);
        Due.same("not OPEN for the elder", x.finish(8 + 5, true), TallyLogs.WRONG);
        Due.same("not OPEN for the younger", x.finish(16 + 5, true), TallyLogs.WRONG);
        Due.same("settled", x.settle(5), 0);
        Due.same("by abort", x.record(0, 0, 1, 1), 2);
        Due.same("of the elder generation", x.state(0, 3), 2);
        Due.same("the elder is WRONG", x.begin(8 + 5), TallyLogs.WRONG);
        Due.same("the younger is not", x.begin(16 + 5), 0);
    }

    private static void registerWhileEnding() {
        Due.about("promise 4, ENDING");
        TallyLogs x = new TallyLogs();
        x.create(0, 1, 1);
        x.register(2);
        x.begin(2);
        x.produce(0, 2, 0, 5, 5, false);
        x.finish(2, true);
        Due.same("handle", x.register(2), 10);
        Due.same("handle", x.register(2), 18);
        Due.same("still ENDING", x.count(4), 2);
        x.settle(2);
        Due.same("still by commit", x.record(0, 0, 1, 1), 1);
        Due.same("of its own generation", x.consume(0, 0, true), 0);
        x.begin(18);
        Due.same("OPEN with nothing", x.register(2), 26);
        Due.same("ENDING with nothing", x.count(4), 2);
        Due.same("nothing is left", x.settle(2), 0);
        Due.same("FREE", x.count(4), 0);
        dueLog(x, 0, 0, 0, 2);
    }

    private static void produce() {
        Due.about("promise 5");
        TallyLogs x = new TallyLogs();
        x.create(2, 2, 1);
        Due.same("by none", x.produce(2, -1, 77, 5, 6, false), 0);
        Due.same("KIND", x.record(1, 2, 0, 1), 0);
        Due.same("PRODUCER", x.record(1, 2, 0, 2), -1);
        Due.same("SEQ", x.record(1, 2, 0, 3), -1);
        Due.same("HW", x.log(1, 2, 2), 1);
        Due.same("consume", x.consume(2, 0, false), 0);
        dueSeen(x, 0, -1, -1, -1, 5, 6);
        Due.same("by none again", x.produce(2, -1, 77, 5, 6, false), 1);
        x.register(3);
        x.register(3);
        Due.same("by a handle", x.produce(2, 11, 0, Integer.MIN_VALUE, Integer.MAX_VALUE, true), 2);
        Due.same("consume", x.consume(2, 2, true), 2);
        dueSeen(x, 0, 3, 1, 0, Integer.MIN_VALUE, Integer.MAX_VALUE);
        Due.same("LOOSE", x.record(1, 2, 2, 6), 0);
        x.begin(11);
        Due.same("in a transaction", x.produce(2, 11, 1, 0, 0, false), 3);
        Due.same("BOUND", x.record(1, 2, 3, 6), 1);
        Due.same("by none meanwhile", x.produce(2, -1, 2, 0, 0, false), 4);
        Due.same("LOOSE", x.record(1, 2, 4, 6), 0);
        Due.same("one partition", x.finish(11, true), 1);
    }

    private static void produceOrderOfRefusals() {
        Due.about("promise 5, refusals");
        TallyLogs x = new TallyLogs();
        x.register(0);
        for (int p : OUTSIDE) {
            Due.same("produce(" + p + ")", x.produce(p, 0, 0, 0, 0, false), TallyLogs.REFUSED);
        }
        x.create(0, 3, 2);
        for (int handle : new int[] {6, 7, 14, 15, -2, -7, -8, -9, Integer.MAX_VALUE, Integer.MIN_VALUE}) {
            Due.same("handle " + handle, x.produce(0, handle, 0, 0, 0, false), TallyLogs.REFUSED);
        }
        Due.same("not registered", x.produce(0, 1, 0, 0, 0, false), TallyLogs.WRONG);
        Due.same("not yet", x.produce(0, 8, 0, 0, 0, false), TallyLogs.WRONG);
        Due.same("ORDER", x.produce(0, 0, 1, 0, 0, false), TallyLogs.ORDER);
        x.begin(0);
        x.finish(0, true);
        Due.same("ENDING", x.produce(0, 0, 0, 0, 0, false), TallyLogs.WRONG);
        x.crash(1, 0);
        Due.same("WRONG before FEW", x.produce(0, 0, 0, 0, 0, true), TallyLogs.WRONG);
        x.settle(0);
        Due.same("FEW before ORDER", x.produce(0, 0, 5, 0, 0, true), TallyLogs.FEW);
        x.crash(0, 0);
        Due.same("NONE before WRONG", x.produce(0, 8, 0, 0, 0, true), TallyLogs.NONE);
        Due.same("NONE by none", x.produce(0, -1, 0, 0, 0, false), TallyLogs.NONE);
        Due.same("REFUSED before NONE", x.produce(0, 6, 0, 0, 0, false), TallyLogs.REFUSED);
        dueLog(x, 0, 0, 0, 0, 0, 0);
    }

    private static void produceFew() {
        Due.about("promise 5, FEW");
        TallyLogs x = new TallyLogs();
        x.create(0, 7, 2);
        x.register(0);
        Due.same("three IN STEP", x.produce(0, 0, 0, 0, 0, true), 0);
        x.crash(2, 0);
        Due.same("two IN STEP", x.produce(0, 0, 1, 0, 0, true), 1);
        x.crash(1, 0);
        Due.same("one IN STEP", x.produce(0, 0, 2, 0, 0, true), TallyLogs.FEW);
        Due.same("a repeat, too", x.produce(0, 0, 1, 0, 0, true), TallyLogs.FEW);
        Due.same("by none, too", x.produce(0, -1, 0, 0, 0, true), TallyLogs.FEW);
        Due.same("not asked", x.produce(0, 0, 2, 0, 0, false), 2);
    }

    private static void produceRepeats() {
        Due.about("promise 5, repeats");
        TallyLogs x = new TallyLogs();
        x.create(0, 1, 1);
        x.register(0);
        x.register(1);
        Due.same("not 0", x.produce(0, 0, 1, 0, 0, false), TallyLogs.ORDER);
        Due.same("-1", x.produce(0, 0, -1, 0, 0, false), TallyLogs.ORDER);
        Due.same("first", x.produce(0, 0, 0, 1, 1, false), 0);
        Due.same("another producer", x.produce(0, 1, 0, 1, 1, false), 1);
        Due.same("second", x.produce(0, 0, 1, 2, 2, false), 2);
        Due.same("a repeat", x.produce(0, 0, 0, 9, 9, false), 0);
        Due.same("nothing came", x.log(0, 0, 1), 3);
        Due.same("as it was", x.record(0, 0, 0, 4), 1);
        Due.same("too far", x.produce(0, 0, 3, 0, 0, false), TallyLogs.ORDER);
        Due.same("the greatest", x.produce(0, 0, Integer.MAX_VALUE, 0, 0, false), TallyLogs.ORDER);
        x.register(0);
        Due.same("a new generation begins at 0", x.produce(0, 8, 2, 0, 0, false), TallyLogs.ORDER);
        Due.same("a new generation", x.produce(0, 8, 0, 0, 0, false), 3);
        x.begin(8);
        Due.same("a repeat in a transaction", x.produce(0, 8, 0, 0, 0, false), 3);
        Due.same("binds nothing", x.finish(8, true), 0);
        x.settle(0);
        x.begin(1);
        x.produce(0, 1, 1, 0, 0, false);
        x.finish(1, true);
        x.settle(1);
        Due.same("a commit has no SEQ", x.produce(0, 1, -1, 0, 0, false), TallyLogs.ORDER);
        Due.same("behind a commit", x.produce(0, 1, 2, 0, 0, false), 6);
        x.trim(0, 7);
        Due.same("what is trimmed is no repeat", x.produce(0, 1, 1, 0, 0, false), TallyLogs.ORDER);
        Due.same("nothing in the log", x.produce(0, 1, 3, 0, 0, false), TallyLogs.ORDER);
        Due.same("0 without", x.produce(0, 1, 0, 0, 0, false), 7);
    }

    private static void produceFull() {
        Due.about("promise 5, FULL");
        TallyLogs x = new TallyLogs();
        x.create(0, 3, 1);
        x.register(0);
        x.produce(0, 0, 0, 7, 8, false);
        produceMany(x, 0, 58);
        Due.same("the sixtieth", data(x, 0), 59);
        Due.same("one more", data(x, 0), TallyLogs.FULL);
        Due.same("a repeat", x.produce(0, 0, 0, 0, 0, false), 0);
        Due.same("ORDER before FULL", x.produce(0, 0, 2, 0, 0, false), TallyLogs.ORDER);
        x.begin(0);
        Due.same("FULL", x.produce(0, 0, 1, 0, 0, false), TallyLogs.FULL);
        Due.same("binds nothing", x.finish(0, true), 0);
        x.follow(1, 0);
        x.follow(1, 0);
        Due.same("trim", x.trim(0, 5), 55);
        for (int i = 0; i < 5; i++) {
            Due.same("again", x.produce(0, -1, 0, i, i, false), 60 + i);
        }
        Due.same("full again", data(x, 0), TallyLogs.FULL);
        Due.same("the first left", x.record(0, 0, 5, 2), -1);
        Due.same("the last", x.record(0, 0, 64, 5), 4);
        Due.same("gone", x.record(0, 0, 4, 0), NO_RECORD);
    }

    private static void safe() {
        Due.about("promise 6");
        TallyLogs x = new TallyLogs();
        for (int p : OUTSIDE) {
            Due.same("safe(" + p + ")", x.safe(p, 0), TallyLogs.REFUSED);
        }
        Due.same("not there", x.safe(0, 0), TallyLogs.REFUSED);
        x.create(0, 3, 1);
        Due.same("nothing", x.safe(0, 0), 0);
        Due.same("below 0", x.safe(0, -1), 1);
        produceMany(x, 0, 2);
        Due.same("not at all IN STEP", x.safe(0, 0), 0);
        x.follow(1, 0);
        Due.same("not known", x.safe(0, 0), 0);
        x.follow(1, 0);
        Due.same("known", x.safe(0, 1), 1);
        Due.same("beyond", x.safe(0, 2), 0);
        Due.same("the greatest", x.safe(0, Integer.MAX_VALUE), 0);
        x.crash(0, 0);
        Due.same("no leader", x.safe(0, 0), TallyLogs.NONE);
    }

    private static void follow() {
        Due.about("promise 7");
        TallyLogs x = new TallyLogs();
        Due.same("no partition", x.follow(1, 0), TallyLogs.REFUSED);
        x.create(0, 7, 1);
        for (int p : OUTSIDE) {
            Due.same("partition " + p, x.follow(1, p), TallyLogs.REFUSED);
        }
        for (int n : new int[] {-1, 3, 4, 5, 32, 33, Integer.MAX_VALUE, Integer.MIN_VALUE}) {
            Due.same("no replica " + n, x.follow(n, 0), TallyLogs.REFUSED);
        }
        Due.same("the leader", x.follow(0, 0), TallyLogs.REFUSED);
        x.tick(3);
        Due.same("nothing to get", x.follow(1, 0), 0);
        dueLog(x, 1, 0, 0, 0, 0, 0, 0, 3);
        data(x, 0);
        x.tick(3);
        Due.same("one", x.follow(1, 0), 1);
        dueLog(x, 1, 0, 0, 1, 0, 0, 0, 3);
        Due.same("none", x.follow(1, 0), 0);
        dueLog(x, 1, 0, 0, 1, 0, 0, 1, 6);
        x.crash(2, 0);
        Due.same("not UP", x.follow(2, 0), TallyLogs.REFUSED);
        Due.same("its HW is elder", x.log(1, 0, 2), 0);
        Due.same("follow", x.follow(1, 0), 0);
        dueLog(x, 1, 0, 0, 1, 1, 0, 1, 6);
        x.restart(2);
        data(x, 0);
        x.follow(1, 0);
        x.follow(1, 0);
        dueState(x, 0, 0, 0, 3, 2);
        Due.same("below HW", x.follow(2, 0), 2);
        dueState(x, 0, 0, 0, 3, 2);
        dueLog(x, 2, 0, 0, 2, 2, 0, 0, 0);
        Due.same("not below HW", x.follow(2, 0), 0);
        dueState(x, 0, 0, 0, 7, 2);
        x.crash(0, 0);
        Due.same("no leader", x.follow(1, 0), TallyLogs.NONE);
        Due.same("REFUSED before NONE", x.follow(0, 0), TallyLogs.REFUSED);
    }

    private static void followGetsFive() {
        Due.about("promise 7, five");
        TallyLogs x = new TallyLogs();
        x.create(1, 24, 1);
        for (int i = 0; i < 11; i++) {
            x.produce(1, -1, 0, i, 100 + i, false);
        }
        x.tick(2);
        Due.same("five", x.follow(4, 1), 5);
        Due.same("five more", x.follow(4, 1), 5);
        dueLog(x, 4, 1, 0, 10, 5, 0, 5, 0);
        dueLog(x, 3, 1, 0, 11, 5, 0, 11, 0);
        Due.same("the last", x.follow(4, 1), 1);
        dueLog(x, 4, 1, 0, 11, 10, 0, 10, 0);
        Due.same("none", x.follow(4, 1), 0);
        dueLog(x, 4, 1, 0, 11, 11, 0, 11, 2);
        for (int i = 0; i < 11; i++) {
            Due.same("KEY " + i, x.record(4, 1, i, 4), i);
            Due.same("VALUE " + i, x.record(4, 1, i, 5), 100 + i);
        }
    }

    private static void followCutsOtherEpochs() {
        Due.about("promise 7, epochs");
        TallyLogs x = new TallyLogs();
        x.create(0, 7, 1);
        produceMany(x, 0, 3);
        x.follow(1, 0);
        produceMany(x, 0, 4);
        x.flush(0, 0);
        x.crash(0, 0);
        x.elect(0, false);
        x.produce(0, -1, 0, 50, 50, false);
        x.restart(0);
        Due.same("one of its own epoch", x.follow(0, 0), 1);
        dueLog(x, 0, 0, 0, 4, 0, 3, 3, 0);
        Due.same("the leader's", x.record(0, 0, 3, 4), 50);
        Due.same("the leader's epoch", x.record(0, 0, 3, 0), 1);
        Due.same("what both have stays", x.record(0, 0, 2, 0), 0);
        x.crash(2, 0);
        x.follow(0, 0);
        x.follow(0, 0);
        dueLog(x, 0, 0, 0, 4, 4, 3, 4, 0);
        dueState(x, 0, 1, 1, 3, 4);
        x.crash(1, 9);
        x.elect(0, false);
        produceMany(x, 0, 2);
        x.crash(0, 9);
        x.restart(1);
        Due.same("unclean", x.elect(0, true), 1);
        data(x, 0);
        x.restart(0);
        Due.same("a shorter leader", x.follow(0, 0), 1);
        dueLog(x, 0, 0, 0, 5, 5, 3, 4, 0);
        Due.same("its epoch", x.record(0, 0, 4, 0), 3);
    }

    private static void followFromBelowStart() {
        Due.about("promise 7, below START");
        TallyLogs x = new TallyLogs();
        x.create(0, 7, 1);
        produceMany(x, 0, 3);
        x.follow(2, 0);
        x.flush(2, 0);
        produceMany(x, 0, 10);
        x.tick(11);
        dueState(x, 0, 0, 0, 1, 13);
        x.trim(0, 6);
        Due.same("from START", x.follow(2, 0), 5);
        dueLog(x, 2, 0, 6, 11, 11, 6, 6, 0);
        dueState(x, 0, 0, 0, 1, 13);
        Due.same("before START", x.record(2, 0, 5, 0), NO_RECORD);
        Due.same("at START", x.record(2, 0, 6, 0), 0);
        x.trim(0, 8);
        Due.same("across START", x.follow(2, 0), 2);
        dueLog(x, 2, 0, 8, 13, 13, 8, 11, 0);
        x.trim(0, 13);
        Due.same("an empty leader", x.follow(1, 0), 0);
        dueLog(x, 1, 0, 13, 13, 13, 13, 13, 11);
        dueState(x, 0, 0, 0, 3, 13);
        Due.same("END at START", x.follow(2, 0), 0);
        dueLog(x, 2, 0, 13, 13, 13, 13, 13, 11);
        dueState(x, 0, 0, 0, 7, 13);
    }

    private static void followFromAboveEnd() {
        Due.about("promise 7, above END");
        TallyLogs x = new TallyLogs();
        x.create(0, 3, 1);
        produceMany(x, 0, 2);
        x.follow(1, 0);
        x.tick(11);
        produceMany(x, 0, 6);
        x.trim(0, 5);
        x.flush(0, 0);
        x.crash(0, 0);
        x.elect(0, true);
        dueLog(x, 1, 0, 0, 2, 2, 0, 2, 11);
        x.restart(0);
        Due.same("the leader has none of it", x.follow(0, 0), 0);
        dueLog(x, 0, 0, 5, 5, 2, 5, 5, 11);
        dueState(x, 0, 1, 1, 3, 2);
        produceMany(x, 0, 2);
        Due.same("still none", x.follow(0, 0), 0);
        dueLog(x, 0, 0, 5, 5, 4, 5, 5, 11);
        produceMany(x, 0, 3);
        Due.same("two", x.follow(0, 0), 2);
        dueLog(x, 0, 0, 5, 7, 5, 5, 5, 11);
        Due.same("the leader's", x.record(0, 0, 6, 0), 1);
    }

    private static void begin() {
        Due.about("promise 8");
        TallyLogs x = new TallyLogs();
        for (int handle : new int[] {-1, -2, -8, 6, 7, 14, 15, Integer.MAX_VALUE, Integer.MIN_VALUE}) {
            Due.same("begin(" + handle + ")", x.begin(handle), TallyLogs.REFUSED);
        }
        Due.same("not registered", x.begin(4), TallyLogs.WRONG);
        x.register(4);
        Due.same("another generation", x.begin(12), TallyLogs.WRONG);
        Due.same("begin", x.begin(4), 0);
        Due.same("OPEN", x.count(6), 1);
        Due.same("OPEN already", x.begin(4), TallyLogs.WRONG);
        x.finish(4, false);
        Due.same("ENDING", x.begin(4), TallyLogs.WRONG);
        x.settle(4);
        Due.same("FREE again", x.begin(4), 0);
    }

    private static void finish() {
        Due.about("promise 9");
        TallyLogs x = new TallyLogs();
        for (int handle : new int[] {-1, -2, -8, 6, 7, 14, 15, Integer.MAX_VALUE, Integer.MIN_VALUE}) {
            Due.same("finish(" + handle + ")", x.finish(handle, true), TallyLogs.REFUSED);
        }
        Due.same("not registered", x.finish(4, true), TallyLogs.WRONG);
        x.register(4);
        Due.same("FREE", x.finish(4, true), TallyLogs.WRONG);
        x.begin(4);
        Due.same("another generation", x.finish(12, true), TallyLogs.WRONG);
        for (int p = 0; p < 4; p++) {
            x.create(p, 1, 1);
        }
        x.produce(0, 4, 0, 0, 0, false);
        x.produce(3, 4, 0, 0, 0, false);
        x.produce(3, 4, 1, 0, 0, false);
        x.produce(1, 4, 0, 0, 0, false);
        Due.same("three partitions", x.finish(4, true), 3);
        Due.same("ENDING", x.count(6), 2);
        Due.same("ENDING already", x.finish(4, true), TallyLogs.WRONG);
        x.settle(4);
        x.begin(4);
        Due.same("none of the elder", x.finish(4, false), 0);
        Due.same("ENDING with none", x.count(6), 2);
    }

    private static void settle() {
        Due.about("promise 10");
        TallyLogs x = new TallyLogs();
        for (int k : new int[] {-1, 6, 8, Integer.MAX_VALUE, Integer.MIN_VALUE}) {
            Due.same("settle(" + k + ")", x.settle(k), TallyLogs.REFUSED);
        }
        Due.same("FREE", x.settle(0), TallyLogs.NONE);
        x.create(0, 1, 1);
        x.create(1, 3, 1);
        x.elect(0, false);
        x.register(5);
        x.register(5);
        x.begin(13);
        Due.same("OPEN", x.settle(5), TallyLogs.NONE);
        x.produce(0, 13, 0, 3, 4, false);
        x.produce(1, 13, 0, 3, 4, false);
        x.finish(13, true);
        x.elect(0, false);
        Due.same("settle", x.settle(5), 0);
        Due.same("FREE", x.count(7), 0);
        Due.same("not ENDING", x.settle(5), TallyLogs.NONE);
        long[] commit = {2, 1, 5, -1, 0, 0, 0};
        for (int what = 0; what < commit.length; what++) {
            Due.same("commit " + what, x.record(0, 0, 1, what), commit[what]);
        }
        dueLog(x, 0, 0, 0, 2, 2);
        dueLog(x, 0, 1, 0, 2, 0);
        x.begin(13);
        x.produce(1, 13, 1, 0, 0, false);
        x.finish(13, false);
        x.settle(5);
        Due.same("abort", x.record(0, 1, 3, 1), 2);
        dueLog(x, 0, 0, 0, 2);
    }

    private static void settleWhatIsLeft() {
        Due.about("promise 10, left");
        TallyLogs x = new TallyLogs();
        x.create(0, 1, 1);
        x.create(1, 2, 1);
        x.create(2, 4, 1);
        x.register(0);
        x.begin(0);
        for (int p = 0; p < 3; p++) {
            x.produce(p, 0, 0, 0, 0, false);
        }
        Due.same("three", x.finish(0, true), 3);
        produceMany(x, 0, 58);
        data(x, 0);
        x.crash(1, 9);
        Due.same("one full, one without a leader", x.settle(0), 2);
        dueLog(x, 2, 2, 0, 2);
        dueLog(x, 1, 1, 0, 1);
        dueLog(x, 0, 0, 0, 60);
        Due.same("ENDING", x.count(2), 2);
        Due.same("the same are left", x.settle(0), 2);
        dueLog(x, 2, 2, 0, 2);
        x.trim(0, 1);
        Due.same("one left", x.settle(0), 1);
        Due.same("commit at the end", x.record(0, 0, 60, 1), 1);
        x.restart(1);
        Due.same("no leader yet", x.settle(0), 1);
        x.elect(1, false);
        Due.same("none left", x.settle(0), 0);
        Due.same("FREE", x.count(2), 0);
        Due.same("of the new epoch", x.record(1, 1, 1, 0), 1);
    }

    private static void consume() {
        Due.about("promise 11");
        TallyLogs x = new TallyLogs();
        for (int p : OUTSIDE) {
            Due.same("consume(" + p + ")", x.consume(p, 0, false), TallyLogs.REFUSED);
        }
        Due.same("not there", x.consume(0, 0, false), TallyLogs.REFUSED);
        x.create(0, 3, 1);
        Due.same("nothing", x.consume(0, 0, false), TallyLogs.NONE);
        for (int i = 0; i < 4; i++) {
            x.produce(0, -1, 0, i, i, false);
        }
        Due.same("not below HW", x.consume(0, 0, false), TallyLogs.NONE);
        Due.same("above HW", x.consume(0, 1, false), TallyLogs.REFUSED);
        x.follow(1, 0);
        x.follow(1, 0);
        data(x, 0);
        Due.same("first", x.consume(0, 0, false), 0);
        Due.same("last", x.consume(0, 3, true), 3);
        Due.same("at HW", x.consume(0, 4, false), TallyLogs.NONE);
        Due.same("above HW", x.consume(0, 5, false), TallyLogs.REFUSED);
        Due.same("below START", x.consume(0, -1, false), TallyLogs.REFUSED);
        Due.same("the greatest", x.consume(0, Integer.MAX_VALUE, false), TallyLogs.REFUSED);
        Due.same("the least", x.consume(0, Integer.MIN_VALUE, false), TallyLogs.REFUSED);
        Due.same("what was SEEN stays", x.seen(4), 3);
        x.trim(0, 2);
        Due.same("below START", x.consume(0, 1, false), TallyLogs.REFUSED);
        Due.same("at START", x.consume(0, 2, false), 2);
        x.crash(0, 9);
        Due.same("no leader", x.consume(0, 2, false), TallyLogs.NONE);
        Due.same("no leader, wrong offset", x.consume(0, -1, false), TallyLogs.NONE);
        Due.same("what was SEEN stays", x.seen(4), 2);
    }

    private static void consumeCommitted() {
        Due.about("promise 11, COMMITTED");
        TallyLogs x = new TallyLogs();
        x.create(0, 1, 1);
        x.register(0);
        x.register(1);
        x.begin(0);
        x.begin(1);
        data(x, 0);                               // 0, loose
        x.produce(0, 0, 0, 0, 0, false);          // 1, to be committed
        x.produce(0, 1, 0, 0, 0, false);          // 2, to be aborted
        data(x, 0);                               // 3, loose
        Due.same("before the first open", x.consume(0, 0, true), 0);
        Due.same("the first open", x.consume(0, 1, true), TallyLogs.NONE);
        Due.same("behind it", x.consume(0, 3, true), TallyLogs.NONE);
        Due.same("not COMMITTED", x.consume(0, 1, false), 1);
        x.finish(1, false);
        x.settle(1);                              // 4, abort
        Due.same("still open", x.consume(0, 1, true), TallyLogs.NONE);
        Due.same("the state", x.state(0, 3), 1);
        x.finish(0, true);
        Due.same("ENDING is not ended", x.consume(0, 1, true), TallyLogs.NONE);
        x.settle(0);                              // 5, commit
        Due.same("committed", x.consume(0, 1, true), 1);
        Due.same("past the aborted", x.consume(0, 2, true), 3);
        Due.same("aborted is data", x.consume(0, 2, false), 2);
        Due.same("an abort is no data", x.consume(0, 4, false), TallyLogs.NONE);
        x.begin(0);
        x.produce(0, 0, 1, 0, 0, false);          // 6, to be aborted
        x.finish(0, false);
        x.settle(0);                              // 7, abort
        Due.same("the first end counts", x.consume(0, 1, true), 1);
        Due.same("the second is aborted", x.consume(0, 4, true), TallyLogs.NONE);
        x.produce(0, 0, 2, 0, 0, false);          // 8, loose
        x.begin(0);
        x.produce(0, 0, 3, 0, 0, false);          // 9, to be aborted
        x.finish(0, false);
        x.settle(0);                              // 10, abort
        Due.same("loose is not aborted", x.consume(0, 4, true), 8);
        Due.same("bound is", x.consume(0, 9, true), TallyLogs.NONE);
    }

    private static void consumeEndOfElderGeneration() {
        Due.about("promise 11, generations");
        TallyLogs x = new TallyLogs();
        x.create(0, 3, 1);
        x.create(1, 4, 1);
        x.register(0);
        x.begin(0);
        x.produce(0, 0, 0, 0, 0, false);
        x.tick(11);
        x.follow(1, 0);
        x.crash(0, 0);
        x.register(0);
        Due.same("the partition has no leader", x.settle(0), 1);
        Due.same("unclean", x.elect(0, true), 1);
        dueLog(x, 1, 0, 0, 1, 1);
        Due.same("open in the new leader's log", x.state(0, 3), 0);
        Due.same("settled there", x.settle(0), 0);
        Due.same("ended", x.state(0, 3), 2);
        x.begin(8);
        x.produce(0, 8, 0, 0, 0, false);
        Due.same("an abort of the elder before it", x.state(0, 3), 2);
        x.finish(8, true);
        x.settle(0);
        Due.same("ended", x.state(0, 3), 4);
        Due.same("the elder is aborted, the younger committed", x.consume(0, 0, true), 2);
    }

    private static void seen() {
        Due.about("promise 12");
        TallyLogs x = new TallyLogs();
        for (int what = -2; what < 9; what++) {
            Due.same("before the first", x.seen(what), 0);
        }
        x.create(0, 1, 1);
        x.elect(0, false);
        x.elect(0, false);
        x.elect(0, false);
        x.register(4);
        x.register(4);
        x.produce(0, 12, 0, 60, 70, false);
        x.produce(0, 12, 1, 61, 71, false);
        x.consume(0, 1, false);
        dueSeen(x, 3, 4, 1, 1, 61, 71, 0, 0);
        Due.same("seen(-1)", x.seen(-1), 0);
        Due.same("the greatest", x.seen(Integer.MAX_VALUE), 0);
        Due.same("the least", x.seen(Integer.MIN_VALUE), 0);
        x.consume(0, 2, false);
        dueSeen(x, 3, 4, 1, 1, 61, 71);
        x.trim(0, 2);
        dueSeen(x, 3, 4, 1, 1, 61, 71);
    }

    private static void member() {
        Due.about("promise 13");
        TallyLogs x = new TallyLogs();
        for (int group : OUTSIDE) {
            Due.same("group " + group, x.member(group, 0), TallyLogs.REFUSED);
        }
        for (int m : new int[] {-1, 8, 9, 32, Integer.MAX_VALUE, Integer.MIN_VALUE}) {
            Due.same("member " + m, x.member(0, m), TallyLogs.REFUSED);
        }
        x.create(0, 1, 1);
        Due.same("comes", x.member(0, 7), 1);
        Due.same("another group", x.member(3, 7), 1);
        Due.same("its owner", x.owner(0, 0), 7);
        Due.same("comes", x.member(0, 0), 2);
        Due.same("its owner", x.owner(0, 0), 0);
        Due.same("goes", x.member(0, 0), 3);
        Due.same("its owner", x.owner(0, 0), 7);
        Due.same("goes", x.member(0, 7), 4);
        Due.same("its owner", x.owner(0, 0), TallyLogs.NONE);
        Due.same("comes again", x.member(0, 7), 5);
    }

    private static void owner() {
        Due.about("promise 14");
        TallyLogs x = new TallyLogs();
        x.create(3, 1, 1);
        for (int i : OUTSIDE) {
            Due.same("group " + i, x.owner(i, 3), TallyLogs.REFUSED);
            Due.same("partition " + i, x.owner(0, i), TallyLogs.REFUSED);
        }
        Due.same("nobody's", x.owner(1, 3), TallyLogs.NONE);
        Due.same("not there", x.owner(1, 2), TallyLogs.REFUSED);
        for (int m : new int[] {6, 2, 4}) {
            x.member(1, m);
        }
        Due.same("first", x.owner(1, 3), 2);
        x.create(1, 1, 1);
        Due.same("first", x.owner(1, 1), 2);
        Due.same("second", x.owner(1, 3), 4);
        x.create(0, 1, 1);
        x.create(2, 1, 1);
        int[] want = {2, 4, 6, 2};
        for (int p = 0; p < 4; p++) {
            Due.same("of four " + p, x.owner(1, p), want[p]);
            Due.same("another group", x.owner(0, p), TallyLogs.NONE);
        }
    }

    private static void move() {
        Due.about("promise 15");
        TallyLogs x = new TallyLogs();
        x.create(0, 1, 1);
        x.create(1, 1, 1);
        for (int i : OUTSIDE) {
            Due.same("group " + i, x.move(i, 0, 0, 0, 0), TallyLogs.REFUSED);
            Due.same("partition " + i, x.move(0, 0, 0, i, 0), TallyLogs.REFUSED);
        }
        Due.same("not there", x.move(0, 0, 0, 2, 0), TallyLogs.REFUSED);
        for (int m = -3; m < 10; m++) {
            Due.same("nobody's", x.move(0, m, 0, 0, 0), TallyLogs.WRONG);
        }
        x.member(0, 3);
        x.member(0, 5);
        Due.same("moved", x.move(0, 3, 2, 0, 9), 0);
        Due.same("position", x.position(0, 0), 9);
        Due.same("another's", x.move(0, 5, 2, 0, 8), TallyLogs.WRONG);
        Due.same("elder round", x.move(0, 3, 1, 0, 8), TallyLogs.WRONG);
        Due.same("later round", x.move(0, 3, 3, 0, 8), TallyLogs.WRONG);
        Due.same("below 0", x.move(0, 3, 2, 0, -1), TallyLogs.REFUSED);
        Due.same("REFUSED before WRONG", x.move(0, 5, 2, 0, -1), TallyLogs.REFUSED);
        Due.same("position", x.position(0, 0), 9);
        Due.same("the other one's", x.move(0, 5, 2, 1, Integer.MAX_VALUE), 0);
        Due.same("back to 0", x.move(0, 3, 2, 0, 0), 0);
        Due.same("position", x.position(0, 0), 0);
        Due.same("position", x.position(0, 1), Integer.MAX_VALUE);
        x.member(3, 0);
        Due.same("the least member's", x.move(3, 0, 1, 1, 4), 0);
    }

    private static void position() {
        Due.about("promise 16");
        TallyLogs x = new TallyLogs();
        x.create(2, 1, 1);
        for (int i : OUTSIDE) {
            Due.same("group " + i, x.position(i, 2), TallyLogs.REFUSED);
            Due.same("partition " + i, x.position(0, i), TallyLogs.REFUSED);
        }
        Due.same("not there", x.position(0, 0), TallyLogs.REFUSED);
        Due.same("at first", x.position(2, 2), 0);
        x.member(2, 1);
        x.move(2, 1, 1, 2, 33);
        Due.same("moved", x.position(2, 2), 33);
        Due.same("another group", x.position(1, 2), 0);
        x.member(2, 1);
        Due.same("without members", x.position(2, 2), 33);
        x.crash(0, 0);
        Due.same("without a leader", x.position(2, 2), 33);
    }

    private static void tick() {
        Due.about("promise 17");
        TallyLogs x = new TallyLogs();
        for (int n : new int[] {0, -1, 51, Integer.MAX_VALUE, Integer.MIN_VALUE}) {
            Due.same("tick(" + n + ")", x.tick(n), TallyLogs.REFUSED);
        }
        Due.same("NOW", x.count(0), 0);
        x.create(0, 7, 1);
        x.create(1, 6, 1);
        x.create(2, 24, 1);
        data(x, 0);
        x.follow(1, 0);
        x.follow(1, 0);
        x.crash(3, 0);
        Due.same("ten is not late", x.tick(10), 0);
        dueState(x, 0, 0, 0, 7, 1);
        x.follow(1, 0);
        Due.same("HW", x.log(0, 0, 2), 0);
        Due.same("2 of 0, 2 of 1", x.tick(1), 2);
        dueState(x, 0, 0, 0, 3, 1);
        dueState(x, 1, 1, 0, 2, 0);
        Due.same("without a leader none goes", x.state(2, 2), 16);
        Due.same("HW rises", x.log(0, 0, 2), 1);
        Due.same("1 of 0", x.tick(50), 1);
        dueState(x, 0, 0, 0, 1, 1);
        Due.same("the leader stays", x.tick(50), 0);
        Due.same("NOW", x.count(0), 111);
        Due.same("the leader's own", x.log(0, 0, 5), 0);
        TallyLogs y = new TallyLogs();
        y.crash(0, 0);
        y.create(0, 3, 1);
        y.restart(0);
        y.follow(0, 0);
        dueState(y, 0, 1, 0, 3, 0);
        Due.same("a node below the leader", y.tick(11), 1);
        dueState(y, 0, 1, 0, 2, 0);
    }

    private static void flush() {
        Due.about("promise 18");
        TallyLogs x = new TallyLogs();
        x.create(0, 3, 1);
        for (int i : OUTSIDE) {
            Due.same("node " + i, x.flush(i, 0), TallyLogs.REFUSED);
            Due.same("partition " + i, x.flush(0, i), TallyLogs.REFUSED);
        }
        Due.same("no replica", x.flush(2, 0), TallyLogs.REFUSED);
        Due.same("no partition", x.flush(0, 1), TallyLogs.REFUSED);
        Due.same("nothing", x.flush(0, 0), 0);
        produceMany(x, 0, 3);
        Due.same("three", x.flush(0, 0), 3);
        produceMany(x, 0, 2);
        Due.same("two", x.flush(0, 0), 2);
        Due.same("none", x.flush(0, 0), 0);
        dueLog(x, 0, 0, 0, 5, 0, 5);
        dueLog(x, 1, 0, 0, 0, 0, 0);
        x.follow(1, 0);
        Due.same("a follower's", x.flush(1, 0), 5);
        x.follow(1, 0);
        produceMany(x, 0, 2);
        x.follow(1, 0);
        x.follow(1, 0);
        x.trim(0, 6);
        dueLog(x, 0, 0, 6, 7, 7, 6);
        Due.same("what is trimmed is not counted", x.flush(0, 0), 1);
        x.crash(1, 0);
        Due.same("not UP", x.flush(1, 0), TallyLogs.REFUSED);
    }

    private static void crash() {
        Due.about("promise 19");
        TallyLogs x = new TallyLogs();
        x.create(0, 7, 1);
        x.create(1, 3, 1);
        x.create(3, 2, 1);
        for (int n : new int[] {-1, 5, 31, 32, Integer.MAX_VALUE, Integer.MIN_VALUE}) {
            Due.same("crash(" + n + ")", x.crash(n, 0), TallyLogs.REFUSED);
        }
        Due.same("keep -1", x.crash(0, -1), TallyLogs.REFUSED);
        Due.same("the least keep", x.crash(0, Integer.MIN_VALUE), TallyLogs.REFUSED);
        Due.same("all UP", x.count(1), 31);
        produceMany(x, 0, 4);
        produceMany(x, 1, 4);
        x.flush(0, 0);
        produceMany(x, 0, 3);
        Due.same("a node without logs", x.crash(4, 0), 0);
        Due.same("two are without a leader", x.crash(0, 2), 2);
        Due.same("bits", x.count(1), 14);
        Due.same("not UP", x.crash(0, 0), TallyLogs.REFUSED);
        dueLog(x, 0, 0, 0, 6, 0, 4, 0, 0);
        dueLog(x, 0, 1, 0, 2, 0, 0, 0, 0);
        dueState(x, 0, -1, 0, 6, -1);
        dueState(x, 1, -1, 0, 2, -1);
        dueState(x, 3, 1, 0, 2, 0);
        x.elect(0, false);
        produceMany(x, 0, 2);
        Due.same("all three", x.crash(1, Integer.MAX_VALUE), 3);
        dueLog(x, 1, 0, 0, 2, 0, 0);
        x.restart(0);
        Due.same("those without a leader, all of them", x.crash(3, 0), 3);
        Due.same("again", x.crash(0, 0), 3);
        dueLog(x, 0, 0, 0, 4, 0, 4);
        dueLog(x, 0, 1, 0, 0, 0, 0);
    }

    private static void crashInStep() {
        Due.about("promise 19, IN STEP");
        TallyLogs x = new TallyLogs();
        x.create(0, 7, 1);
        produceMany(x, 0, 4);
        x.follow(1, 0);
        x.follow(1, 0);
        Due.same("HW", x.log(0, 0, 2), 0);
        Due.same("a follower", x.crash(2, 0), 0);
        dueState(x, 0, 0, 0, 3, 4);
        Due.same("HW rises", x.log(0, 0, 2), 4);
        x.follow(1, 0);
        dueLog(x, 1, 0, 0, 4, 4);
        x.crash(1, 1);
        dueLog(x, 1, 0, 0, 1, 1, 0, 4, 0);
        dueState(x, 0, 0, 0, 1, 4);
        x.crash(0, 3);
        dueState(x, 0, -1, 0, 1, -1);
        dueLog(x, 0, 0, 0, 3, 3, 0, 0, 0);
        x.restart(1);
        x.elect(0, true);
        dueState(x, 0, 1, 1, 2, 1);
        x.restart(0);
        Due.same("not IN STEP", x.crash(0, 0), 0);
        dueState(x, 0, 1, 1, 2, 1);
    }

    private static void restart() {
        Due.about("promise 20");
        TallyLogs x = new TallyLogs();
        for (int n : new int[] {-1, 0, 4, 5, 32, Integer.MAX_VALUE, Integer.MIN_VALUE}) {
            Due.same("restart(" + n + ")", x.restart(n), TallyLogs.REFUSED);
        }
        x.create(0, 7, 1);
        x.create(1, 7, 1);
        x.create(2, 1, 1);
        data(x, 0);
        x.follow(1, 0);
        x.follow(1, 0);
        x.crash(1, 1);
        Due.same("known till then", x.log(1, 0, 4), 1);
        Due.same("restart", x.restart(1), 0);
        Due.same("UP", x.count(1), 31);
        Due.same("UP already", x.restart(1), TallyLogs.REFUSED);
        dueLog(x, 1, 0, 0, 1, 0, 0, -1, 0);
        dueLog(x, 1, 1, 0, 0, 0, 0, -1, 0);
        dueLog(x, 2, 0, 0, 0, 0, 0, 0, 0);
        dueState(x, 0, 0, 0, 5, 1);
        x.crash(0, 0);
        x.restart(0);
        dueState(x, 2, -1, 0, 1, -1);
        Due.same("no replica of it", x.log(1, 2, 4), TallyLogs.REFUSED);
    }

    private static void trim() {
        Due.about("promise 21");
        TallyLogs x = new TallyLogs();
        for (int p : OUTSIDE) {
            Due.same("trim(" + p + ")", x.trim(p, 0), TallyLogs.REFUSED);
        }
        Due.same("not there", x.trim(0, 0), TallyLogs.REFUSED);
        x.create(0, 3, 1);
        Due.same("nothing", x.trim(0, 0), 0);
        Due.same("above HW", x.trim(0, 1), TallyLogs.REFUSED);
        produceMany(x, 0, 5);
        x.follow(1, 0);
        x.follow(1, 0);
        produceMany(x, 0, 2);
        Due.same("three go", x.trim(0, 3), 4);
        dueLog(x, 0, 0, 3, 7, 5, 3);
        dueLog(x, 1, 0, 0, 5, 5, 0);
        Due.same("gone", x.record(0, 0, 2, 0), NO_RECORD);
        Due.same("left", x.record(0, 0, 3, 0), 0);
        Due.same("below START", x.trim(0, 2), TallyLogs.REFUSED);
        Due.same("at START", x.trim(0, 3), 4);
        Due.same("above HW", x.trim(0, 6), TallyLogs.REFUSED);
        Due.same("at HW", x.trim(0, 5), 2);
        Due.same("the greatest", x.trim(0, Integer.MAX_VALUE), TallyLogs.REFUSED);
        Due.same("the least", x.trim(0, Integer.MIN_VALUE), TallyLogs.REFUSED);
        x.flush(0, 0);
        x.crash(0, 0);
        dueLog(x, 0, 0, 5, 7, 5, 7);
        Due.same("no leader", x.trim(0, 5), TallyLogs.NONE);
        Due.same("no leader, wrong offset", x.trim(0, -1), TallyLogs.NONE);
    }

    private static void log() {
        Due.about("promise 22");
        TallyLogs x = new TallyLogs();
        x.create(0, 6, 1);
        for (int what = 0; what < 6; what++) {
            for (int i : OUTSIDE) {
                Due.same("node " + i, x.log(i, 0, what), TallyLogs.REFUSED);
                Due.same("partition " + i, x.log(1, i, what), TallyLogs.REFUSED);
            }
            Due.same("no partition", x.log(1, 1, what), TallyLogs.REFUSED);
            Due.same("no replica", x.log(0, 0, what), TallyLogs.REFUSED);
        }
        for (int what : new int[] {-1, 6, 7, Integer.MAX_VALUE, Integer.MIN_VALUE}) {
            Due.same("what " + what, x.log(1, 0, what), TallyLogs.REFUSED);
        }
        produceMany(x, 0, 6);
        x.flush(1, 0);
        data(x, 0);
        x.follow(2, 0);
        x.tick(1);
        x.follow(2, 0);
        x.trim(0, 1);
        dueLog(x, 1, 0, 1, 7, 5, 6, 7, 0);
        dueLog(x, 2, 0, 0, 7, 5, 0, 5, 0);
        x.follow(2, 0);
        dueLog(x, 2, 0, 1, 7, 7, 1, 7, 1);
    }

    private static void record() {
        Due.about("promise 23");
        TallyLogs x = new TallyLogs();
        x.create(0, 6, 1);
        x.elect(0, false);
        x.register(2);
        x.begin(2);
        x.produce(0, 2, 0, -5, -6, false);
        x.produce(0, 2, 1, 7, 8, false);
        long[] want = {1, 0, 2, 1, 7, 8, 1};
        for (int what = 0; what < want.length; what++) {
            Due.same("what " + what, x.record(1, 0, 1, what), want[what]);
            Due.same("not there yet", x.record(2, 0, 1, what), NO_RECORD);
            Due.same("above END", x.record(1, 0, 2, what), NO_RECORD);
            Due.same("below START", x.record(1, 0, -1, what), NO_RECORD);
            Due.same("the greatest", x.record(1, 0, Integer.MAX_VALUE, what), NO_RECORD);
            Due.same("the least", x.record(1, 0, Integer.MIN_VALUE, what), NO_RECORD);
            Due.same("no replica", x.record(0, 0, 0, what), NO_RECORD);
            Due.same("no partition", x.record(1, 1, 0, what), NO_RECORD);
            for (int i : OUTSIDE) {
                Due.same("node " + i, x.record(i, 0, 0, what), NO_RECORD);
                Due.same("partition " + i, x.record(1, i, 0, what), NO_RECORD);
            }
        }
        for (int what : new int[] {-1, 7, 8, Integer.MAX_VALUE, Integer.MIN_VALUE}) {
            Due.same("what " + what, x.record(1, 0, 0, what), NO_RECORD);
        }
        Due.same("KEY below 0", x.record(1, 0, 0, 4), -5);
        Due.same("VALUE below 0", x.record(1, 0, 0, 5), -6);
        x.follow(2, 0);
        for (int what = 0; what < want.length; what++) {
            Due.same("the follower's " + what, x.record(2, 0, 1, what), want[what]);
        }
        x.crash(1, 1);
        Due.same("of a node that is lost", x.record(1, 0, 0, 6), 1);
        Due.same("lost", x.record(1, 0, 1, 6), NO_RECORD);
    }

    private static void state() {
        Due.about("promise 24");
        TallyLogs x = new TallyLogs();
        for (int what = -1; what < 6; what++) {
            for (int p : OUTSIDE) {
                Due.same("state(" + p + ")", x.state(p, what), TallyLogs.REFUSED);
            }
            Due.same("not there", x.state(0, what), TallyLogs.REFUSED);
        }
        x.create(0, 28, 1);
        for (int what : new int[] {-1, 4, 5, Integer.MAX_VALUE, Integer.MIN_VALUE}) {
            Due.same("what " + what, x.state(0, what), TallyLogs.REFUSED);
        }
        dueState(x, 0, 2, 0, 28, 0);
        produceMany(x, 0, 2);
        dueState(x, 0, 2, 0, 28, 2);
        x.register(0);
        x.begin(0);
        x.produce(0, 0, 0, 0, 0, false);
        x.produce(0, 0, 1, 0, 0, false);
        dueState(x, 0, 2, 0, 28, 2);
        x.finish(0, true);
        dueState(x, 0, 2, 0, 28, 2);
        x.settle(0);
        dueState(x, 0, 2, 0, 28, 5);
        x.begin(0);
        x.produce(0, 0, 2, 0, 0, false);
        dueState(x, 0, 2, 0, 28, 5);
        x.follow(3, 0);
        x.crash(2, 9);
        dueState(x, 0, -1, 0, 24, -1);
        x.elect(0, false);
        dueState(x, 0, 3, 1, 24, 5);
    }

    private static void count() {
        Due.about("promise 25");
        TallyLogs x = new TallyLogs();
        for (int what : new int[] {-1, 8, 9, Integer.MAX_VALUE, Integer.MIN_VALUE}) {
            Due.same("count(" + what + ")", x.count(what), TallyLogs.REFUSED);
        }
        x.tick(50);
        x.tick(1);
        Due.same("NOW", x.count(0), 51);
        x.crash(3, 0);
        x.crash(1, 0);
        Due.same("UP", x.count(1), 21);
        for (int k = 0; k < 6; k++) {
            x.register(k);
            Due.same("FREE", x.count(2 + k), 0);
            x.begin(k);
            Due.same("OPEN", x.count(2 + k), 1);
            x.finish(k, k % 2 == 0);
            Due.same("ENDING", x.count(2 + k), 2);
        }
        x.settle(3);
        Due.same("FREE", x.count(5), 0);
        Due.same("ENDING", x.count(4), 2);
    }
}
