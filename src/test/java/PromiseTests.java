/** One test or more for each promise of the document, with answers that were worked out by hand. */
public final class PromiseTests {
    private static final int NO_SUCH = -1, BAD_VALUE = -2, BAD_TEXT = -3, TOO_MANY = -4, NOT_POSSIBLE = -5, NONE = -6;
    private static final int RING = 0, BUDGET = 1, FOLLOW = 2, COST = 3;
    private static final int LEAST = Integer.MIN_VALUE, MOST = Integer.MAX_VALUE;
    private static final int[] NO_QUEUES = {-1, 3, 4, LEAST, MOST};

    private PromiseTests() {
    }

    public static void main(String[] args) {
        newObject();
        set();
        setRing();
        setBudget();
        bounds();
        come();
        comeTooMany();
        mask();
        call();
        pass();
        passErrors();
        tickOrder();
        rowTurns();
        waitBound();
        follow();
        of();
        frame();
        row();
        count();
        why();
        takenIn();
        would();
        bestCount();
        bestCountAside();
        put();
        wipe();
        faults();
        carryOut();
        carryOutStops();
        undo();
        undoEach();
        save();
        restore();
        Due.end();
    }

    // ---- promise 1

    private static void newObject() {
        Due.part("1: a new object");
        Card x = new Card();
        x.countsAre(0, 0, 0, 0, 0, 0, 0, 16, 4, 0, 6, 0, 0);
        for (int queue = 0; queue < 3; queue++) {
            x.queueIs(queue, 4, 10, 4, 0, 0, 0, 0, 0, 0, 0, NONE, 0, NONE);
            Due.is("why", x.why(queue), 3);
        }
        Due.is("row(0)", x.row(0), NO_SUCH);
        Due.is("frame(0, 0)", x.frame(0, 0), NO_SUCH);
        Due.is("takenIn(0)", x.takenIn(0), NO_SUCH);
        Due.is("fault()", x.fault(), 0);
        Due.is("wipe()", x.wipe(), 0);
        Due.is("undo()", x.undo(), NOT_POSSIBLE);
        Due.is("restore(0)", x.restore(0), NOT_POSSIBLE);
        Due.is("restore(1)", x.restore(1), NOT_POSSIBLE);
        Card y = new Card();
        x.come(0);
        x.set(COST, 9);
        y.countsAre(0, 0, 0, 0, 0, 0, 0, 16, 4, 0, 6, 0, 0);
        Due.is("a frame of another object", y.frame(0, 0), NO_SUCH);
    }

    // ---- promise 2

    private static void set() {
        Due.part("2: set");
        int[] first = {16, 4, 0, 6};
        int[] least = {1, 1, 0, 0};
        int[] most = {32, 16, 1, 50};
        for (int setting = 0; setting < 4; setting++) {
            Card x = new Card();
            Due.is("below the range", x.set(setting, least[setting] - 1), BAD_VALUE);
            Due.is("above the range", x.set(setting, most[setting] + 1), BAD_VALUE);
            Due.is("far below", x.set(setting, LEAST), BAD_VALUE);
            Due.is("far above", x.set(setting, MOST), BAD_VALUE);
            x.countsAre(0, 0, 0, 0, 0, 0, 0, 16, 4, 0, 6, 0, 0);
            Due.is("the most", x.set(setting, most[setting]), first[setting]);
            Due.is("the least", x.set(setting, least[setting]), most[setting]);
            Due.is("the same", x.set(setting, least[setting]), least[setting]);
            for (int other = 0; other < 4; other++) {
                Due.is("the settings then", x.count(7 + other), other == setting ? least[setting] : first[other]);
            }
            Due.is("changes", x.count(12), 3);
        }
        Card x = new Card();
        for (int setting : new int[] {-1, 4, LEAST, MOST}) {
            Due.is("no such setting", x.set(setting, 1), BAD_VALUE);
        }
        Due.is("no change", x.count(12), 0);
    }

    private static void setRing() {
        Due.part("2: set, the ring");
        Card x = new Card();
        x.mask(0);
        x.come(0, 17);
        Due.is("in the ring", x.of(0, 3), 16);
        Due.is("dropped", x.of(0, 8), 1);
        x.set(RING, 32);
        x.come(0, 17);
        Due.is("in the larger ring", x.of(0, 3), 32);
        Due.is("dropped", x.of(0, 8), 2);
        x.set(RING, 2);
        Due.is("frames stay", x.of(0, 3), 32);
        Due.is("they are where they were", x.frame(31, 2), 0);
        x.come(3);
        Due.is("dropped", x.of(0, 8), 3);
        x.come(1);
        x.come(1);
        x.come(1);
        Due.is("another ring has the same bound", x.of(1, 3), 2);
        Due.is("and drops", x.of(1, 8), 1);
    }

    private static void setBudget() {
        Due.part("2: set, the budget");
        Card x = new Card();
        x.come(0, 16);
        x.set(BUDGET, 3);
        x.pass(1);
        Due.is("three are taken", x.pass(1), 3);
        x.set(BUDGET, 16);
        Due.is("the rest", x.pass(1), 13);
        Due.is("fewer than the budget: idle", x.of(0, 4), 0);
        Due.is("no call more", x.of(0, 6), 1);
    }

    // ---- promise 3

    private static void bounds() {
        Due.part("3: bounds");
        Card x = new Card();
        Due.is("bounds(1, 7, 33)", x.bounds(1, 7, 33), 4);
        x.queueIs(1, 7, 33, 7);
        x.queueIs(0, 4, 10, 4);
        x.queueIs(2, 4, 10, 4);
        Due.is("the least", x.bounds(1, 1, 1), 7);
        x.queueIs(1, 1, 1, 1);
        Due.is("the most", x.bounds(1, 32, 99), 1);
        x.queueIs(1, 32, 99, 32);
        Due.is("the same", x.bounds(1, 32, 99), 32);
        Due.is("changes", x.count(12), 4);
        for (int queue : NO_QUEUES) {
            Due.is("no such queue", x.bounds(queue, 3, 3), NO_SUCH);
            Due.is("NO_SUCH is first", x.bounds(queue, 0, 0), NO_SUCH);
        }
        for (int count : new int[] {0, 33, -1, LEAST, MOST}) {
            Due.is("count", x.bounds(1, count, 5), BAD_VALUE);
        }
        for (int wait : new int[] {0, 100, -1, LEAST, MOST}) {
            Due.is("wait", x.bounds(1, 5, wait), BAD_VALUE);
        }
        x.queueIs(1, 32, 99, 32);
        Due.is("errors are no changes", x.count(12), 4);
        Due.is("queue 0", x.bounds(0, 2, 3), 4);
        Due.is("queue 2", x.bounds(2, 5, 6), 4);
        x.queueIs(0, 2, 3, 2);
        x.queueIs(2, 5, 6, 5);
    }

    // ---- promise 4

    private static void come() {
        Due.part("4: come");
        Card x = new Card();
        x.pass(5);
        Due.is("come(0)", x.come(0), 0);
        Due.is("come(99)", x.come(99), 1);
        Due.is("come(98)", x.come(98), 2);
        Due.is("come(97)", x.come(97), 3);
        Due.is("queue 0", x.of(0, 3), 2);
        Due.is("queue 1", x.of(1, 3), 1);
        Due.is("queue 2", x.of(2, 3), 1);
        Due.is("the oldest of 0", x.of(0, 12), 0);
        Due.is("the oldest of 1", x.of(1, 12), 3);
        Due.is("the oldest of 2", x.of(2, 12), 2);
        Due.is("its flow", x.frame(1, 0), 99);
        Due.is("its time", x.frame(1, 1), 5);
        Due.is("changes", x.count(12), 5);
        for (int flow : new int[] {-1, 100, -3, LEAST, MOST}) {
            Due.is("flow", x.come(flow), BAD_VALUE);
        }
        Due.is("errors are no changes", x.count(12), 5);
        Due.is("frames", x.count(1), 4);
        x.set(RING, 1);
        Due.is("a dropped frame has a number", x.come(4), 4);
        Due.is("the next one too", x.come(7), 5);
        Due.is("how", x.frame(4, 2), 2);
        Due.is("flow", x.frame(4, 0), 4);
        Due.is("time", x.frame(4, 1), 5);
        Due.is("the ring", x.of(1, 3), 1);
        Due.is("dropped", x.of(1, 8), 2);
        Due.is("no call at once", x.count(5), 0);
    }

    private static void comeTooMany() {
        Due.part("4: come, too many");
        Card x = new Card();
        x.come(1, 399);
        Due.is("the last one", x.come(2), 399);
        Due.is("one more", x.come(0), TOO_MANY);
        Due.is("BAD_VALUE is first", x.come(100), BAD_VALUE);
        Due.is("frames", x.count(1), 400);
        Due.is("dropped", x.count(4), 383);
        Due.is("queue 0 is empty", x.of(0, 3), 0);
        Due.is("its flow", x.frame(399, 0), 2);
        Due.is("no frame 400", x.frame(400, 0), NO_SUCH);
        Due.is("undo", x.undo(), 5);
        Due.is("then one more comes", x.come(3), 399);
        Due.is("its flow", x.frame(399, 0), 3);
    }

    // ---- promise 5

    private static void mask() {
        Due.part("5: mask");
        Card x = new Card();
        Due.is("mask(0)", x.mask(0), 1);
        Due.is("mask(2)", x.mask(2), 1);
        Due.is("masked", x.count(6), 5);
        Due.is("mask(0) again", x.mask(0), 0);
        Due.is("masked", x.count(6), 4);
        Due.is("mask(1)", x.mask(1), 1);
        Due.is("masked", x.count(6), 6);
        for (int queue : NO_QUEUES) {
            Due.is("no such queue", x.mask(queue), NO_SUCH);
        }
        Due.is("changes", x.count(12), 4);
        Due.is("masked", x.count(6), 6);
        x.come(0, 5);
        x.come(1, 5);
        x.pass(30);
        Due.is("0 has called", x.of(0, 7), 5);
        Due.is("1 has not", x.of(1, 6), 0);
        Due.is("1 has its frames", x.of(1, 3), 5);
        x.mask(1);
        Due.is("not at once", x.of(1, 6), 0);
        x.pass(1);
        Due.is("1 calls", x.of(1, 4), 1);
        x.mask(1);
        Due.is("a masked queue stays in the row", x.of(1, 4), 1);
        Due.is("and is polled", x.pass(1), 4);
        Due.is("to its end", x.pass(1), 1);
        Due.is("then it is idle", x.of(1, 4), 0);
        x.come(1, 5);
        Due.is("and does not call", x.pass(50), 0);
    }

    // ---- promise 6

    private static void call() {
        Due.part("6: call");
        Card x = new Card();
        Due.is("no frames", x.call(0), NOT_POSSIBLE);
        x.come(0);
        x.come(1);
        x.come(2);
        x.mask(2);
        Due.is("masked", x.call(2), 0);
        Due.is("the second one", x.call(0), 1);
        Due.is("the third one", x.call(1), 2);
        Due.is("it is not idle", x.call(2), NOT_POSSIBLE);
        for (int queue : NO_QUEUES) {
            Due.is("no such queue", x.call(queue), NO_SUCH);
        }
        Due.is("changes", x.count(12), 6);
        Due.is("row(0)", x.row(0), 2);
        Due.is("row(1)", x.row(1), 0);
        Due.is("row(2)", x.row(2), 1);
        Due.is("calls", x.count(5), 3);
        Due.is("calls of 0", x.of(0, 6), 1);
        Due.is("polled in the next tick", x.pass(1), 1);
        Due.is("2 is idle", x.of(2, 4), 0);
        Due.is("it waited for no tick", x.of(2, 9), 0);
        Due.is("the others follow", x.pass(2), 2);
        Due.is("no frames any more", x.call(0), NOT_POSSIBLE);
        Due.is("calls", x.count(5), 3);
    }

    // ---- promise 7

    private static void pass() {
        Due.part("7: pass");
        Card x = new Card();
        x.come(0, 7);
        x.come(1);
        Due.is("none in the first tick", x.pass(1), 0);
        Due.is("time", x.count(0), 1);
        Due.is("0 called", x.row(0), 0);
        Due.is("1 did not", x.row(1), NO_SUCH);
        Due.is("the budget", x.pass(1), 4);
        Due.is("the oldest ones", x.frame(3, 2), 1);
        Due.is("not the next one", x.frame(4, 2), 0);
        Due.is("the oldest then", x.of(0, 12), 4);
        Due.is("taken since it called", x.of(0, 11), 4);
        Due.is("still in the row", x.of(0, 4), 1);
        Due.is("the rest", x.pass(1), 3);
        Due.is("idle", x.of(0, 4), 0);
        Due.is("taken since it called", x.of(0, 11), 0);
        Due.is("waits", x.of(0, 9), 4 + 2 * 3);
        Due.is("the longest", x.of(0, 10), 2);
        Due.is("the other one waits 11 ticks", x.pass(99), 1);
        Due.is("the longest", x.of(1, 10), 11);
        Due.is("time", x.count(0), 102);
        Due.is("sum", x.pass(1), 0);
        x.come(5, 9);
        Due.is("in several ticks", x.pass(4), 9);
    }

    private static void passErrors() {
        Due.part("7: pass, errors");
        Card x = new Card();
        for (int ticks : new int[] {0, 100, -1, LEAST, MOST}) {
            Due.is("ticks", x.pass(ticks), BAD_VALUE);
        }
        Due.is("no change", x.count(12), 0);
        for (int n = 0; n < 100; n++) {
            x.pass(99);
        }
        x.pass(50);
        Due.is("time", x.count(0), 9950);
        x.come(0);
        Due.is("above 9999", x.pass(50), NOT_POSSIBLE);
        Due.is("BAD_VALUE is first", x.pass(100), BAD_VALUE);
        Due.is("time", x.count(0), 9950);
        Due.is("no tick passed", x.frame(0, 3), 0);
        Due.is("to 9999", x.pass(49), 1);
        Due.is("time", x.count(0), 9999);
        Due.is("one more", x.pass(1), NOT_POSSIBLE);
        x.come(0, 4);
        Due.is("would does not mind", x.would(2, 0), 4);
        Due.is("takenIn neither", x.takenIn(1), 2);
        Due.is("bestCount neither", x.bestCount(0, 20, 1), 112);
    }

    private static void tickOrder() {
        Due.part("a tick: its order");
        Card x = new Card();
        x.come(2, 4);
        x.come(1, 4);
        x.pass(1);
        Due.is("by numbers", x.row(0), 1);
        Due.is("not by age", x.row(1), 2);
        x.set(BUDGET, 2);
        x.come(0, 4);
        x.pass(1);
        Due.is("1 was polled", x.of(1, 7), 2);
        Due.is("2 is the next one", x.row(0), 2);
        Due.is("1 is at the end, ahead of", x.row(1), 1);
        Due.is("the one that calls after the poll", x.row(2), 0);
        Card y = new Card();
        y.bounds(0, 1, 1);
        y.come(0);
        y.pass(1);
        y.come(0);
        Due.is("frames that came since are taken too", y.pass(1), 2);
        Due.is("it does not call again", y.of(0, 6), 1);
        y.come(0);
        Due.is("it calls again", y.pass(1), 0);
        Due.is("calls", y.of(0, 6), 2);
    }

    private static void rowTurns() {
        Due.part("a tick: the row turns");
        Card x = new Card();
        x.set(BUDGET, 1);
        x.type("f0*2;f1;f2*2");
        x.carryOut();
        x.call(0);
        x.call(1);
        x.call(2);
        x.pass(1);
        Due.is("row(0)", x.row(0), 1);
        Due.is("row(2)", x.row(2), 0);
        x.pass(2);
        Due.is("row(0)", x.row(0), 0);
        Due.is("row(1)", x.row(1), 1);
        Due.is("row(2)", x.row(2), 2);
        Due.is("1 is empty but not idle", x.of(1, 4), 1);
        Due.is("0 gives its last one", x.pass(1), 1);
        Due.is("1 has none", x.pass(1), 0);
        Due.is("and leaves", x.of(1, 4), 0);
        Due.is("row(0)", x.row(0), 2);
        Due.is("row(1)", x.row(1), 0);
        Due.is("row(2)", x.row(2), NO_SUCH);
        Due.is("all are taken", x.pass(3), 1);
        Due.is("nobody is there", x.row(0), NO_SUCH);
        Due.is("waits of 0", x.of(0, 9), 3);
        Due.is("waits of 1", x.of(1, 9), 1);
        Due.is("waits of 2", x.of(2, 9), 2 + 5);
        Due.is("the longest", x.of(2, 10), 5);
    }

    private static void waitBound() {
        Due.part("a tick: the bound of waiting");
        Card x = new Card();
        x.bounds(0, 32, 3);
        x.pass(7);
        x.come(0);
        x.pass(2);
        x.come(0);
        x.pass(1);
        Due.is("not before", x.of(0, 4), 0);
        Due.is("now it would", x.why(0), 0);
        x.pass(1);
        Due.is("it calls", x.of(0, 4), 1);
        Due.is("both are taken", x.pass(1), 2);
        Due.is("waits", x.of(0, 9), 4 + 2);
        x.come(0);
        x.bounds(0, 32, 1);
        x.pass(1);
        Due.is("no tick ago", x.of(0, 4), 0);
        x.pass(1);
        Due.is("a tick ago", x.of(0, 4), 1);
    }

    private static int inUseAfter(int count, int frames, int follow) {
        Card x = new Card();
        x.set(FOLLOW, follow);
        x.set(RING, 32);
        x.set(BUDGET, 16);
        x.bounds(1, count, 99);
        x.come(1, Math.min(frames, 32));
        x.call(1);
        x.pass(1);
        x.come(1, Math.max(frames - 32, 0));
        x.pass(9);
        Due.is("all are taken", x.of(1, 7), frames);
        Due.is("it is idle", x.of(1, 4), 0);
        Due.is("the count of the queue stays", x.of(1, 0), count);
        return x.of(1, 2);
    }

    private static void follow() {
        Due.part("a tick: counts follow the load");
        Due.is("1 with 2", inUseAfter(1, 2, 1), 1);
        Due.is("1 with 3", inUseAfter(1, 3, 1), 2);
        Due.is("1 with 1", inUseAfter(1, 1, 1), 1);
        Due.is("2 with 1", inUseAfter(2, 1, 1), 2);
        Due.is("3 with 1", inUseAfter(3, 1, 1), 1);
        Due.is("4 with 2", inUseAfter(4, 2, 1), 4);
        Due.is("4 with 1", inUseAfter(4, 1, 1), 2);
        Due.is("5 with 2", inUseAfter(5, 2, 1), 2);
        Due.is("3 with 6", inUseAfter(3, 6, 1), 3);
        Due.is("3 with 7", inUseAfter(3, 7, 1), 6);
        Due.is("16 with 32", inUseAfter(16, 32, 1), 16);
        Due.is("16 with 33", inUseAfter(16, 33, 1), 32);
        Due.is("17 with 35", inUseAfter(17, 35, 1), 32);
        Due.is("17 with 34", inUseAfter(17, 34, 1), 17);
        Due.is("32 with 15", inUseAfter(32, 15, 1), 16);
        Due.is("32 with 16", inUseAfter(32, 16, 1), 32);
        Due.is("3 with 7, not followed", inUseAfter(3, 7, 0), 3);
        Due.is("4 with 1, not followed", inUseAfter(4, 1, 0), 4);
        Card x = new Card();
        x.set(FOLLOW, 1);
        x.bounds(0, 1, 50);
        x.come(0, 5);
        x.pass(2);
        Due.is("not while it is in the row", x.of(0, 2), 1);
        x.pass(1);
        Due.is("when it leaves", x.of(0, 2), 2);
        Due.is("other queues do not follow", x.of(1, 2), 4);
        x.come(0);
        Due.is("the count in use counts", x.why(0), 4);
        x.set(FOLLOW, 0);
        Due.is("it stays", x.of(0, 2), 2);
        x.bounds(0, 1, 50);
        Due.is("bounds() sets it", x.of(0, 2), 1);
    }

    // ---- promise 8

    private static void of() {
        Due.part("8: of");
        Card x = Card.busy();
        x.queueIs(0, 2, 20, 2, 2, 1, 0, 2, 3, 0, 3, 1, 0, 10);
        x.queueIs(1, 4, 10, 4, 3, 1, 0, 1, 0, 3, 0, NONE, 0, 3);
        x.queueIs(2, 4, 10, 4, 1, 0, 1, 0, 0, 0, 0, NONE, 0, 4);
        for (int what : new int[] {-1, 13, LEAST, MOST}) {
            Due.is("what", x.of(0, what), BAD_VALUE);
        }
        for (int queue : NO_QUEUES) {
            Due.is("no such queue", x.of(queue, 0), NO_SUCH);
            Due.is("NO_SUCH is first", x.of(queue, 13), NO_SUCH);
        }
        x.set(BUDGET, 3);
        x.pass(1);
        x.queueIs(1, 4, 10, 4, 0, 1, 0, 1, 3, 3, 3, 3, 3, NONE);
        x.pass(1);
        x.queueIs(0, 2, 20, 2, 0, 0, 0, 2, 5, 0, 5, 1, 0, NONE);
        x.pass(1);
        x.queueIs(1, 4, 10, 4, 0, 0, 0, 1, 3, 3, 3, 3, 0, NONE);
        Card y = new Card();
        y.come(0);
        y.call(0);
        y.pass(1);
        Due.is("a longest wait of 0", y.of(0, 10), 0);
    }

    // ---- promise 9

    private static void frame() {
        Due.part("9: frame");
        Card x = Card.busy();
        x.frameIs(0, 0, 0, 1, 1);
        x.frameIs(3, 1, 0, 0, 3);
        x.frameIs(4, 2, 3, 0, 0);
        x.frameIs(6, 1, 3, 0, 0);
        x.frameIs(7, 1, 3, 2, NONE);
        x.frameIs(11, 3, 3, 0, 0);
        x.pass(4);
        x.frameIs(0, 0, 0, 1, 1);
        x.frameIs(3, 1, 0, 1, 3);
        x.frameIs(4, 2, 3, 0, 4);
        x.frameIs(7, 1, 3, 2, NONE);
        x.frameIs(11, 3, 3, 1, 1);
        for (int frame : new int[] {-1, 12, 399, 400, LEAST, MOST}) {
            Due.is("no such frame", x.frame(frame, 0), NO_SUCH);
            Due.is("NO_SUCH is first", x.frame(frame, 4), NO_SUCH);
        }
        for (int what : new int[] {-1, 4, LEAST, MOST}) {
            Due.is("what", x.frame(11, what), BAD_VALUE);
        }
    }

    // ---- promise 10

    private static void row() {
        Due.part("10: row");
        Card x = new Card();
        Due.is("nobody", x.row(0), NO_SUCH);
        x.come(2);
        x.come(0);
        x.call(2);
        Due.is("row(0)", x.row(0), 2);
        Due.is("row(1)", x.row(1), NO_SUCH);
        x.call(0);
        Due.is("row(1)", x.row(1), 0);
        for (int rank : new int[] {-1, 2, 3, LEAST, MOST}) {
            Due.is("not so many", x.row(rank), NO_SUCH);
        }
    }

    // ---- promise 11

    private static void count() {
        Due.part("11: count");
        Card x = Card.busy();
        x.put(Card.code("f1;"));
        x.countsAre(3, 12, 6, 3, 3, 3, 4, 3, 4, 0, 6, 3, 5);
        x.set(BUDGET, 7);
        x.set(FOLLOW, 1);
        x.set(COST, 11);
        x.mask(0);
        x.countsAre(3, 12, 6, 3, 3, 3, 5, 3, 7, 1, 11, 3, 6);
        for (int what : new int[] {-1, 13, LEAST, MOST}) {
            Due.is("what", x.count(what), BAD_VALUE);
        }
    }

    // ---- promise 12

    private static void why() {
        Due.part("12: why");
        Card x = new Card();
        Due.is("no frames", x.why(0), 3);
        x.mask(0);
        Due.is("masked is ahead of that", x.why(0), 2);
        x.come(0);
        x.call(0);
        Due.is("the row is first", x.why(0), 1);
        x.mask(0);
        x.come(1);
        Due.is("too few", x.why(1), 4);
        x.come(1, 2);
        Due.is("three are too few", x.why(1), 4);
        x.come(1);
        Due.is("four are enough", x.why(1), 0);
        Due.is("whatever the poll does", x.why(0), 1);
        x.come(2);
        x.pass(9);
        Due.is("nine ticks", x.why(2), 4);
        x.pass(1);
        Due.is("ten ticks", x.why(2), 0);
        Due.is("it is idle yet", x.of(2, 4), 0);
        for (int queue : NO_QUEUES) {
            Due.is("no such queue", x.why(queue), NO_SUCH);
        }
        Due.is("no change", x.count(12), 6);
    }

    // ---- promise 13

    private static void takenIn() {
        Due.part("13: takenIn");
        Card x = new Card();
        x.come(0);
        x.call(0);
        Due.is("in the next tick", x.takenIn(0), 1);
        x.come(1);
        Due.is("by the wait", x.takenIn(1), 12);
        x.mask(1);
        Due.is("masked", x.takenIn(1), NONE);
        x.call(1);
        Due.is("masked, but called", x.takenIn(1), 2);
        x.set(RING, 1);
        x.come(0);
        Due.is("dropped", x.takenIn(2), NOT_POSSIBLE);
        String before = x.look();
        int changes = x.count(12);
        x.takenIn(0);
        Due.holds("nothing changes", before.equals(x.look()) && changes == x.count(12));
        x.pass(1);
        Due.is("taken", x.takenIn(0), NOT_POSSIBLE);
        for (int frame : new int[] {-1, 3, 400, LEAST, MOST}) {
            Due.is("no such frame", x.takenIn(frame), NO_SUCH);
        }
        Card y = new Card();
        y.set(RING, 32);
        y.set(BUDGET, 1);
        y.come(0, 32);
        y.come(1, 32);
        y.come(2, 32);
        Due.is("by turns", y.takenIn(95), 97);
        y.bounds(2, 32, 99);
        y.come(5);
        y.pass(1);
        Due.is("a tick later", y.takenIn(95), 96);
        y.pass(95);
        Due.is("one is left", y.count(2), 1);
        Due.is("its number", y.of(2, 12), 95);
        Due.is("in one", y.takenIn(95), 1);
    }

    // ---- promise 14

    private static void would() {
        Due.part("14: would");
        Card x = Card.busy();
        String before = x.look();
        Due.is("taken in 1", x.would(1, 0), 3);
        Due.is("taken in 2", x.would(2, 0), 5);
        Due.is("calls", x.would(99, 1), 0);
        Due.is("waits", x.would(99, 2), 3 + 0 + 0 + 1 + 1);
        Due.is("rings", x.would(99, 3), 1);
        Due.is("rings in 1", x.would(1, 3), 3);
        Due.is("changes", x.count(12), 5);
        Due.holds("nothing changes", before.equals(x.look()));
        x.mask(2);
        Due.is("calls", x.would(99, 1), 1);
        Due.is("in 11", x.would(11, 1), 1);
        Due.is("in 10", x.would(10, 1), 0);
        Due.is("taken in 11", x.would(11, 0), 5);
        Due.is("taken in 12", x.would(12, 0), 6);
        Due.is("rings", x.would(99, 3), 0);
        for (int ticks : new int[] {0, 100, -1, LEAST, MOST}) {
            Due.is("ticks", x.would(ticks, 0), BAD_VALUE);
        }
        for (int what : new int[] {-1, 4, LEAST, MOST}) {
            Due.is("what", x.would(1, what), BAD_VALUE);
        }
        int would = x.would(12, 2);
        int had = x.of(0, 9) + x.of(1, 9) + x.of(2, 9);
        x.pass(12);
        Due.is("as it comes", x.of(0, 9) + x.of(1, 9) + x.of(2, 9) - had, would);
    }

    // ---- promise 15

    private static void best(Card x, int queue, int gap, int count, int cost) {
        Due.is("bestCount(" + queue + ", " + gap + ", 0)", x.bestCount(queue, gap, 0), count);
        Due.is("bestCount(" + queue + ", " + gap + ", 1)", x.bestCount(queue, gap, 1), cost);
    }

    private static void bestCount() {
        Due.part("15: bestCount");
        Card x = new Card();
        // a frame alone: it calls at once, and waits for a tick
        best(x, 0, 20, 1, 16 * (1 + 6));
        x.set(COST, 50);
        x.bounds(1, 4, 99);
        // two together: the first one waits for 21 ticks
        best(x, 1, 20, 2, 8 * (21 + 1 + 50));
        // nothing waits for the other bound as long: alone is best
        best(x, 2, 20, 1, 16 * (1 + 50));
        x.bounds(0, 9, 1);
        // by the wait of 1 three at a time, for all counts above 1: the least of these
        best(x, 0, 1, 2, 5 * (2 + 1 + 0 + 50) + 2 + 50);
        x.set(RING, 1);
        x.bounds(0, 9, 10);
        // two frames come in, all others are dropped
        best(x, 0, 1, 2, 2 * (11 + 50));
        x.set(COST, 0);
        x.set(RING, 16);
        best(x, 0, 20, 1, 16);
        for (int queue : NO_QUEUES) {
            Due.is("no such queue", x.bestCount(queue, 1, 0), NO_SUCH);
            Due.is("NO_SUCH is first", x.bestCount(queue, 0, 2), NO_SUCH);
        }
        for (int gap : new int[] {0, 21, -1, LEAST, MOST}) {
            Due.is("gap", x.bestCount(0, gap, 0), BAD_VALUE);
        }
        for (int what : new int[] {-1, 2, LEAST, MOST}) {
            Due.is("what", x.bestCount(0, 1, what), BAD_VALUE);
        }
        // the answers of the document's own test
        Card y = new Card();
        best(y, 0, 1, 4, 50);
        y.set(COST, 50);
        best(y, 0, 5, 3, 401);
    }

    private static void bestCountAside() {
        Due.part("15: bestCount, what does not matter");
        Card x = Card.busy();
        x.set(RING, 16);
        x.bounds(2, 30, 10);
        String before = x.look();
        int changes = x.count(12);
        x.would(1, 0);
        best(x, 2, 20, 1, 112);
        x.takenIn(4);
        best(x, 2, 20, 1, 112);
        x.would(1, 0);
        best(x, 1, 1, 4, 50);
        Due.holds("nothing changes", before.equals(x.look()) && changes == x.count(12));
        x.set(BUDGET, 1);
        x.set(COST, 50);
        x.bounds(1, 9, 99);
        // all in one call: the poll takes one in each tick, as they come
        best(x, 1, 1, 1, 16 * 1 + 50);
        x.set(FOLLOW, 1);
        x.set(BUDGET, 16);
        x.set(COST, 0);
        // single frames, gap 20: count 1 stays 1, as 1 is not above 2
        best(x, 1, 20, 1, 16);
        x.set(RING, 1);
        x.set(COST, 25);
        x.bounds(1, 9, 45);
        // 24, 12, 6, 3 and then 1: the first four take 46 ticks each, in which two frames are dropped
        best(x, 1, 17, 24, 4 * (46 + 25) + 4 * (1 + 25));
        Card y = new Card();
        y.mask(1);
        y.come(1);
        y.set(COST, 50);
        y.bounds(1, 4, 99);
        y.would(1, 0);
        best(y, 1, 20, 2, 8 * (21 + 1 + 50));
    }

    // ---- promise 16

    private static void put() {
        Due.part("16: put");
        Card x = new Card();
        Due.is("no character", x.put(0), BAD_VALUE);
        Due.is("32", x.put(32), BAD_VALUE);
        Due.is("127", x.put(127), BAD_VALUE);
        Due.is("128", x.put(128), BAD_VALUE);
        Due.is("255", x.put(255), BAD_VALUE);
        Due.is("the last one is 0", x.put('f' << 8), BAD_VALUE);
        Due.is("a gap", x.put(1L << 32 | 'f'), BAD_VALUE);
        Due.is("a gap ahead of the first bits", x.put((long) 'f' << 56 | '1'), BAD_VALUE);
        Due.is("all bits", x.put(-1), BAD_VALUE);
        Due.is("the highest bit", x.put(Long.MIN_VALUE), BAD_VALUE);
        Due.is("the highest bit with characters", x.put(Long.MIN_VALUE | Card.code("1234567")), BAD_VALUE);
        Due.is("the first of eight", x.put(Card.code("f1;t2;m0") | 1L << 63), BAD_VALUE);
        Due.is("a bad one inside", x.put(Card.code("f 1")), BAD_VALUE);
        Due.is("nothing was put", x.count(11), 0);
        Due.is("33", x.put(33), 1);
        Due.is("126", x.put(126), 2);
        x.wipe();
        Due.is("one", x.put('m'), 1);
        Due.is("eight", x.put(Card.code("1;f33*2;")), 9);
        Due.is("two", x.put(Card.code("t5")), 11);
        Due.is("in this order", x.fault(), NONE);
        Due.is("orders", x.carryOut(), 4);
        Due.is("masked", x.count(6), 2);
        Due.is("flow", x.frame(1, 0), 33);
        Due.is("time", x.count(0), 5);
        for (int n = 1; n <= 9; n++) {
            Due.is("longer", x.put(Card.code("abcdefgh")), 8 * n);
        }
        int changes = x.count(12);
        Due.is("79", x.put(Card.code("abcdefg")), 79);
        Due.is("81", x.put(Card.code("ab")), TOO_MANY);
        Due.is("BAD_VALUE is first", x.put(Card.code("a b")), BAD_VALUE);
        Due.is("79 still", x.count(11), 79);
        Due.is("80", x.put('a'), 80);
        Due.is("81", x.put('a'), TOO_MANY);
        Due.is("no change", x.count(12), changes);
    }

    // ---- promise 17

    private static void wipe() {
        Due.part("17: wipe");
        Card x = new Card();
        Due.is("empty", x.wipe(), 0);
        x.type("t5;f1");
        Due.is("five", x.wipe(), 5);
        Due.is("then none", x.count(11), 0);
        Due.is("the text has gone", x.fault(), 0);
        Due.is("no change", x.count(12), 0);
        x.type("m1");
        Due.is("nothing of the old text", x.fault(), NONE);
        Due.is("two", x.wipe(), 2);
        Due.is("none", x.wipe(), 0);
    }

    // ---- promise 18

    private static void fault(String text, int want) {
        Card x = new Card();
        x.type(text);
        Due.is("fault of " + text, x.fault(), want);
        Due.is("carryOut of " + text, x.carryOut() == BAD_TEXT ? 1 : 0, want == NONE ? 0 : 1);
        Due.is("length then", x.count(11), want == NONE ? 0 : text.length());
    }

    private static void faults() {
        Due.part("18: fault");
        for (String good : new String[] {"f0", "f9", "f10", "f99", "f1*0", "f1*9", "f10*99", "f0*10", "t0", "t99", "t5",
            "q0=1,1", "q9=99,99", "q2=0,0", "q1=10,5", "m0", "m9", "f1;t2;q0=4,10;m1", "m0;m0", "f0*0;t0"}) {
            fault(good, NONE);
        }
        fault("", 0);
        fault("x", 0);
        fault("1", 0);
        fault(";", 0);
        fault("F1", 0);
        fault("f", 1);
        fault("fx", 1);
        fault("f;", 1);
        fault("f*", 1);
        fault("f00", 2);
        fault("f01", 2);
        fault("f100", 3);
        fault("f999", 3);
        fault("f1*", 3);
        fault("f1*;", 3);
        fault("f1*00", 4);
        fault("f1*100", 5);
        fault("f1*1*1", 4);
        fault("f10=", 3);
        fault("f1,1", 2);
        fault("t", 1);
        fault("t100", 3);
        fault("t05", 2);
        fault("t5*2", 2);
        fault("t-1", 1);
        fault("q", 1);
        fault("qx", 1);
        fault("q=1,1", 1);
        fault("q10", 2);
        fault("q1", 2);
        fault("q1=", 3);
        fault("q1=,", 3);
        fault("q1=1", 4);
        fault("q1=1;", 4);
        fault("q1=100,1", 5);
        fault("q1=01,1", 4);
        fault("q1=1,", 5);
        fault("q1=1,;", 5);
        fault("q1=1,05", 6);
        fault("q1=1,100", 7);
        fault("q1=1,1,1", 6);
        fault("q1=1,1*2", 6);
        fault("m", 1);
        fault("mm", 1);
        fault("m10", 2);
        fault("m1*2", 2);
        fault("m=1", 1);
        fault("f1;", 3);
        fault("f1;;", 3);
        fault("f1;x", 3);
        fault("f1;f", 4);
        fault("f1f1", 2);
        fault("f1;t2;q0=1", 10);
        fault("f1;t2;z;f", 6);
        fault("f1!", 2);
        fault("q/=1,1", 1);
        fault("q:=1,1", 1);
        fault("f/", 1);
        fault("f:", 1);
        Card x = new Card();
        x.type("m0;m1;m2;m0;m1;m2;m0;m1;m2;m0;m1;m2;m0;m1;m2;m0;m1;m2;m0;m1;m2;m0;m1;m2;m0;m1;m2");
        Due.is("80 characters", x.count(11), 80);
        Due.is("without a fault", x.fault(), NONE);
        Due.is("orders", x.carryOut(), 27);
        Due.is("nine times each", x.count(6), 7);
    }

    // ---- promise 19

    private static void carryOut() {
        Due.part("19: carryOut");
        Card x = new Card();
        x.type("f7;f98*2;t3;q2=8,90;m1");
        Due.is("orders", x.carryOut(), 6);
        Due.is("the pad is empty", x.count(11), 0);
        Due.is("one change", x.count(12), 1);
        Due.is("frames", x.count(1), 3);
        x.frameIs(0, 7, 0, 0, 3);
        x.frameIs(2, 98, 0, 0, 3);
        Due.is("time", x.count(0), 3);
        x.queueIs(2, 8, 90, 8);
        Due.is("masked", x.count(6), 2);
        Due.is("empty", x.carryOut(), BAD_TEXT);
        x.type("f1;");
        Due.is("a fault", x.carryOut(), BAD_TEXT);
        Due.is("it stays", x.count(11), 3);
        Due.is("no change", x.count(12), 1);
        Due.is("no frame", x.count(1), 3);
        x.type("f2*0");
        Due.is("no order of f2*0", x.carryOut(), 1);
        Due.is("a frame", x.count(1), 4);
        x.type("f2*0");
        Due.is("none", x.carryOut(), 0);
        Due.is("a change all the same", x.count(12), 3);
        x.type("f2*0;t1");
        Due.is("none is no error", x.carryOut(), 1);
        Due.is("time", x.count(0), 4);
        x.type("m1;t12;f7*99");
        Due.is("orders", x.carryOut(), 101);
        Due.is("undo of all", x.undo(), 4);
        Due.is("masked again", x.count(6), 2);
        Due.is("frames", x.count(1), 4);
        Due.is("time", x.count(0), 4);
        Due.is("the pad stays empty", x.count(11), 0);
    }

    private static void carryOutStops() {
        Due.part("19: carryOut, errors");
        Card x = new Card();
        x.type("f1;t0;f1");
        Due.is("t0", x.carryOut(), 1);
        Due.is("the pad is empty", x.count(11), 0);
        Due.is("frames", x.count(1), 1);
        x.type("f1;q3=1,1;f1");
        Due.is("q3", x.carryOut(), 1);
        x.type("q0=0,1;f1");
        Due.is("q0=0,1", x.carryOut(), 0);
        x.type("q0=33,1;f1");
        Due.is("q0=33,1", x.carryOut(), 0);
        x.type("q0=1,0;f1");
        Due.is("q0=1,0", x.carryOut(), 0);
        Due.is("changes", x.count(12), 5);
        x.type("m0;m3;f1");
        Due.is("m3", x.carryOut(), 1);
        Due.is("frames", x.count(1), 2);
        x.queueIs(0, 4, 10, 4);
        x.type("f1*99;f2*99;f3*99;f4*99;f5*99;t7");
        Due.is("up to 400", x.carryOut(), 398);
        Due.is("no tick", x.count(0), 0);
        Due.is("frames", x.count(1), 400);
        x.type("t99;t99;t99;t99;t99;t99;t99;t99;t99;t99;t99;t99;t99;t99;t99;t99;t99;t99;t99;t99");
        Due.is("twenty", x.carryOut(), 20);
        for (int n = 0; n < 81; n++) {
            x.pass(99);
        }
        x.type("m0;t1;m1");
        Due.is("the bound of the time", x.carryOut(), 1);
        Due.is("time", x.count(0), 9999);
    }

    // ---- promise 20

    private static void undo() {
        Due.part("20: undo");
        Card x = new Card();
        Due.is("none", x.undo(), NOT_POSSIBLE);
        for (int n = 1; n <= 8; n++) {
            x.set(COST, n);
            Due.is("changes", x.count(12), Math.min(n, 6));
        }
        // an error of a full history drops nothing
        Due.is("errors", x.set(COST, 51) + x.come(100) + x.pass(0) + x.restore(0), 3 * BAD_VALUE + NOT_POSSIBLE);
        for (int n = 5; n >= 0; n--) {
            Due.is("undo()", x.undo(), n);
            Due.is("COST", x.count(10), n + 2);
            Due.is("count(12)", x.count(12), n);
        }
        Due.is("none", x.undo(), NOT_POSSIBLE);
        Due.is("COST", x.count(10), 2);
        x.set(COST, 2);
        Due.is("also if nothing is different", x.count(12), 1);
        x.set(COST, 30);
        x.undo();
        x.set(COST, 40);
        Due.is("after an undo", x.undo(), 1);
        Due.is("COST", x.count(10), 2);
        x.type("f1;t");
        x.save(0);
        x.come(5);
        x.type("3");
        x.save(1);
        x.undo();
        Due.is("the pad stays", x.count(11), 5);
        Due.is("the slots stay", x.restore(1), 1);
        Due.is("a restored frame", x.frame(0, 0), 5);
        x.undo();
        Due.is("gone", x.count(1), 0);
    }

    /** A change, or a call that is none, by its number. */
    private static int act(Card x, int kind) {
        switch (kind) {
            case 0: return x.set(FOLLOW, 1);
            case 1: return x.bounds(0, 1, 5);
            case 2: return x.come(4);
            case 3: return x.mask(2);
            case 4: return x.call(2);
            case 5: return x.pass(30);
            case 6: x.type("f2*5;t9;q1=9,9;m0"); return x.carryOut();
            default: return x.restore(1);
        }
    }

    private static void undoEach() {
        Due.part("20: undo of each change");
        for (int kind = 0; kind < 8; kind++) {
            Card x = Card.busy();
            x.save(1);
            x.pass(2);
            String before = x.look();
            int changes = x.count(12);
            Due.holds("act " + kind + " is done", act(x, kind) >= 0);
            Due.is("changes after " + kind, x.count(12), changes);
            Due.holds("something is different after " + kind, !before.equals(x.look()));
            Due.is("undo of " + kind, x.undo(), 5);
            Due.holds("as before " + kind, before.equals(x.look()));
        }
        Card y = new Card();
        y.come(0, 5);
        y.pass(2);
        y.pass(1);
        Due.is("it has left the row", y.of(0, 11), 0);
        y.undo();
        Due.is("it is in the row again", y.row(0), 0);
        Due.is("taken since it called", y.of(0, 11), 4);
        Due.is("the rest", y.pass(1), 1);
        Card x = Card.busy();
        x.undo();
        Due.is("changes", x.count(12), 4);
        Due.is("errors", x.set(4, 0) + x.bounds(3, 0, 0) + x.come(-1) + x.mask(3) + x.call(3) + x.pass(0)
                + x.carryOut() + x.restore(0) + x.restore(2) + x.save(2),
                3 * NO_SUCH + 5 * BAD_VALUE + BAD_TEXT + NOT_POSSIBLE);
        Due.is("record nothing", x.count(12), 4);
        x.put(Card.code("t1"));
        x.wipe();
        x.save(0);
        x.why(0);
        Due.is("these are no changes", x.count(12), 4);
    }

    // ---- promise 21

    private static void save() {
        Due.part("21: save");
        Card x = Card.busy();
        Due.is("frames", x.save(0), 12);
        Due.is("no change", x.count(12), 5);
        for (int slot : new int[] {-1, 2, LEAST, MOST}) {
            Due.is("no such slot", x.save(slot), BAD_VALUE);
        }
        String before = x.look();
        Due.is("the other one is empty", x.restore(1), NOT_POSSIBLE);
        x.come(0);
        Due.is("frames", x.save(1), 13);
        x.pass(9);
        x.set(RING, 9);
        Due.is("restore", x.restore(0), 12);
        Due.holds("as saved", before.equals(x.look()));
        x.come(0);
        x.come(0);
        Due.is("overwrites", x.save(0), 14);
        Due.is("the other slot", x.restore(1), 13);
        Due.is("the new state", x.restore(0), 14);
    }

    // ---- promise 22

    private static void restore() {
        Due.part("22: restore");
        Card x = Card.busy();
        for (int slot : new int[] {-1, 2, LEAST, MOST}) {
            Due.is("no such slot", x.restore(slot), BAD_VALUE);
        }
        Due.is("nothing was saved", x.restore(0), NOT_POSSIBLE);
        Due.is("errors are no changes", x.count(12), 5);
        x.save(0);
        String saved = x.look();
        x.type("f1");
        x.pass(99);
        x.mask(1);
        x.bounds(1, 3, 3);
        x.set(COST, 1);
        x.come(8);
        String later = x.look();
        Due.is("changes", x.count(12), 6);
        Due.is("restore(0)", x.restore(0), 12);
        Due.holds("as saved", saved.equals(x.look()));
        Due.is("the pad stays", x.count(11), 2);
        Due.is("the history stays", x.count(12), 6);
        Due.is("undo", x.undo(), 5);
        Due.holds("as before", later.equals(x.look()));
        Due.is("the slot keeps it", x.restore(0), 12);
        x.come(8);
        Due.is("whatever comes then", x.restore(0), 12);
        Due.holds("as saved", saved.equals(x.look()));
        Card y = new Card();
        y.come(0);
        y.save(1);
        y.pass(40);
        y.save(0);
        y.restore(1);
        y.call(0);
        y.pass(40);
        Due.is("a wait of another past", y.frame(0, 3), 0);
        y.restore(0);
        Due.is("the wait that was saved", y.frame(0, 3), 11);
    }
}
