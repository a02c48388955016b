/** The boundary cases of promises 8 to 15: what there is, and what if. */
public final class AnswersEdgesTests {
    private static final int NO_SUCH = -1, BAD_VALUE = -2, TOO_MANY = -4, NOT_POSSIBLE = -5, NONE = -6;
    private static final int RING = 0, BUDGET = 1, FOLLOW = 2, COST = 3;

    private AnswersEdgesTests() {
    }

    public static void main(String[] args) throws IllegalAccessException {
        Edges.run(AnswersEdgesTests.class);
    }

    // ---- promise 8: "NO_SUCH if there is no such queue; BAD_VALUE if what is out of range"

    static void promise08_queuesAre0To2() {
        for (int queue : Edges.beyond(0, 2)) {
            Edges.refused("of(" + queue + ", 3)", Edges::rich, x -> x.of(queue, 3), NO_SUCH);
        }
        Card x = new Card();
        x.order("f0;f1*2;f2*3");
        for (int queue = 0; queue < 3; queue++) {
            Due.is("of(" + queue + ", 3)", x.of(queue, 3), queue + 1);
        }
    }

    static void promise08_whatIs0To12() {
        for (int what : Edges.beyond(0, 12)) {
            Edges.refused("of(1, " + what + ")", Edges::rich, x -> x.of(1, what), BAD_VALUE);
        }
        Card x = Card.busy();
        x.queueIs(0, 2, 20, 2, 2, 1, 0, 2, 3, 0, 3, 1, 0, 10);
        x.queueIs(1, 4, 10, 4, 3, 1, 0, 1, 0, 3, 0, NONE, 0, 3);
        x.queueIs(2, 4, 10, 4, 1, 0, 1, 0, 0, 0, 0, NONE, 0, 4);
    }

    static void promise08_nothingIsChangedByIt() {
        for (int what = 0; what <= 12; what++) {
            int asked = what;
            Edges.keeps("of(1, " + what + ")", Edges::rich, x -> x.of(1, asked), Edges.rich().of(1, what));
        }
    }

    static void promise08_theCountAndTheCountInUseDiffer() {
        Card x = new Card();
        x.set(FOLLOW, 1);
        x.come(0);
        x.call(0);
        x.pass(1);
        x.queueIs(0, 4, 10, 2);
    }

    static void promise08_inTheRowIs1Or0() {
        Card x = new Card();
        x.come(0, 4);
        Due.is("idle", x.of(0, 4), 0);
        x.call(0);
        Due.is("called", x.of(0, 4), 1);
        x.pass(1);
        Due.is("without frames, but in the row", x.of(0, 4), 1);
        x.pass(1);
        Due.is("idle again", x.of(0, 4), 0);
    }

    static void promise08_maskedIsByHandAlone() {
        Card x = new Card();
        x.come(0, 9);
        x.call(0);
        x.pass(1);
        Due.is("in the row, and polled", x.of(0, 5), 0);
        x.mask(0);
        Due.is("by hand", x.of(0, 5), 1);
        x.pass(9);
        Due.is("when it has left the row", x.of(0, 5), 1);
    }

    static void promise08_theLongestWaitIsNoneUntilOneIsTaken() {
        Card x = new Card();
        x.come(0);
        x.call(0);
        Due.is("a frame waits", x.of(0, 10), NONE);
        x.pass(1);
        Due.is("taken at once: a wait of 0", x.of(0, 10), 0);
        Due.is("another queue", x.of(1, 10), NONE);
    }

    static void promise08_theLongestWaitStays() {
        Card x = new Card();
        x.come(0);
        x.pass(12);
        Due.is("eleven ticks", x.of(0, 10), 11);
        x.come(0);
        x.call(0);
        x.pass(1);
        Due.is("then none", x.of(0, 10), 11);
        x.bounds(0, 4, 11);
        x.come(0);
        x.pass(13);
        Due.is("then twelve", x.of(0, 10), 12);
        Due.is("together", x.of(0, 9), 11 + 0 + 12);
    }

    static void promise08_aDroppedFrameWaitsForNothing() {
        Card x = new Card();
        x.set(RING, 1);
        x.come(0, 3);
        x.pass(12);
        x.queueIs(0, 4, 10, 4, 0, 0, 0, 1, 1, 2, 11, 11, 0, NONE);
    }

    static void promise08_takenSinceItCalledIs0IfItIsIdle() {
        Card x = new Card();
        Due.is("it never called", x.of(0, 11), 0);
        x.come(0, 9);
        x.call(0);
        Due.is("it has just called", x.of(0, 11), 0);
        x.pass(1);
        Due.is("four", x.of(0, 11), 4);
        x.pass(1);
        Due.is("eight", x.of(0, 11), 8);
        x.pass(1);
        Due.is("idle after nine", x.of(0, 11), 0);
        Due.is("taken at all", x.of(0, 7), 9);
    }

    static void promise08_theOldestFrameIsNoneInAnEmptyRing() {
        Card x = new Card();
        Due.is("no frame came", x.of(0, 12), NONE);
        x.come(1);
        x.come(0, 5);
        Due.is("the oldest", x.of(0, 12), 1);
        Due.is("frame 0", x.of(1, 12), 0);
        x.call(0);
        x.pass(1);
        Due.is("the fifth", x.of(0, 12), 5);
        x.pass(1);
        Due.is("all are taken", x.of(0, 12), NONE);
        x.come(0);
        Due.is("the next one", x.of(0, 12), 6);
    }

    static void promise08_theOldestFrameIsNoDroppedOne() {
        Card x = new Card();
        x.set(RING, 1);
        x.come(0, 2);
        x.call(0);
        x.pass(1);
        Due.is("none in the ring", x.of(0, 12), NONE);
        x.come(0);
        Due.is("the one behind the dropped one", x.of(0, 12), 2);
    }

    // ---- promise 9: "NO_SUCH if there is no such frame; BAD_VALUE if what is out of range"

    static void promise09_framesAre0ToTheLastOne() {
        for (int frame : Edges.beyond(0, 12)) {
            Edges.refused("frame(" + frame + ", 0)", Edges::rich, x -> x.frame(frame, 0), NO_SUCH);
        }
        Card x = Edges.rich();
        Due.is("the first one", x.frame(0, 0), 0);
        Due.is("the last one", x.frame(12, 0), 2);
    }

    static void promise09_frame399IsTheLastOneOfAll() {
        Card x = fourHundred();
        Due.is("the last one", x.frame(399, 0), 1);
        Due.is("none behind it", x.frame(400, 0), NO_SUCH);
    }

    static void promise09_whatIs0To3() {
        for (int what : Edges.beyond(0, 3)) {
            Edges.refused("frame(12, " + what + ")", Edges::rich, x -> x.frame(12, what), BAD_VALUE);
        }
        Card x = new Card();
        x.pass(2);
        x.come(77);
        x.pass(3);
        x.frameIs(0, 77, 2, 0, 3);
    }

    static void promise09_nothingIsChangedByIt() {
        for (int what = 0; what <= 3; what++) {
            int asked = what;
            Edges.keeps("frame(3, " + what + ")", Edges::rich, x -> x.frame(3, asked), Edges.rich().frame(3, what));
        }
    }

    static void promise09_theWaitOfADroppedFrameIsNone() {
        Card x = new Card();
        x.set(RING, 1);
        x.come(0, 2);
        Due.is("at once", x.frame(1, 3), NONE);
        x.pass(30);
        x.frameIs(1, 0, 0, 2, NONE);
    }

    static void promise09_theWaitInARingIsUntilNow() {
        Card x = new Card();
        x.come(0);
        Due.is("at once", x.frame(0, 3), 0);
        x.pass(10);
        Due.is("ten ticks", x.frame(0, 3), 10);
        x.pass(1);
        Due.is("it has called", x.frame(0, 3), 11);
        Due.is("it is in the ring", x.frame(0, 2), 0);
    }

    static void promise09_theWaitOfATakenFrameStays() {
        Card x = new Card();
        x.come(0);
        x.pass(12);
        x.frameIs(0, 0, 0, 1, 11);
        x.pass(50);
        x.frameIs(0, 0, 0, 1, 11);
        Card y = new Card();
        y.come(0);
        y.call(0);
        y.pass(1);
        y.frameIs(0, 0, 0, 1, 0);
    }

    // ---- promise 10: "NO_SUCH if there are not so many"

    static void promise10_anEmptyRowHasNoFirstQueue() {
        for (int rank : new int[] {0, 1, -1, Integer.MIN_VALUE, Integer.MAX_VALUE}) {
            Edges.refused("row(" + rank + ")", Card::new, x -> x.row(rank), NO_SUCH);
        }
    }

    static void promise10_ranksEndWithTheRow() {
        Card x = new Card();
        x.order("f0;f1;f2");
        int[] queues = {1, 0, 2};
        for (int length = 1; length <= 3; length++) {
            x.call(queues[length - 1]);
            Due.is("the last one of " + length, x.row(length - 1), queues[length - 1]);
            Due.is("one more than " + length, x.row(length), NO_SUCH);
            Due.is("the first one", x.row(0), 1);
        }
        for (int rank : Edges.beyond(0, 2)) {
            Due.is("row(" + rank + ")", x.row(rank), NO_SUCH);
        }
    }

    static void promise10_nothingIsChangedByIt() {
        Edges.keeps("row(0)", Edges::rich, x -> x.row(0), 0);
        Edges.refused("row(3)", Edges::rich, x -> x.row(3), NO_SUCH);
        Edges.refused("row(-1)", Edges::rich, x -> x.row(-1), NO_SUCH);
    }

    // ---- promise 11: "BAD_VALUE if what is out of range"

    static void promise11_whatIs0To12() {
        for (int what : Edges.beyond(0, 12)) {
            Edges.refused("count(" + what + ")", Edges::rich, x -> x.count(what), BAD_VALUE);
        }
        Edges.rich().countsAre(4, 13, 4, 6, 3, 3, 4, 3, 4, 0, 9, 8, 6);
    }

    static void promise11_nothingIsChangedByIt() {
        for (int what = 0; what <= 12; what++) {
            int asked = what;
            Edges.keeps("count(" + what + ")", Edges::rich, x -> x.count(asked), Edges.rich().count(what));
        }
    }

    static void promise11_theMaskedSetIsOfThoseMaskedByHand() {
        Card x = new Card();
        x.come(0, 9);
        x.call(0);
        Due.is("a queue in the row", x.count(6), 0);
        x.pass(1);
        Due.is("a queue that is polled", x.count(6), 0);
        x.mask(2);
        Due.is("one by hand", x.count(6), 4);
        x.mask(0);
        Due.is("one in the row, by hand", x.count(6), 5);
    }

    static void promise11_callsByHandAreCallsToo() {
        Card x = new Card();
        x.come(0);
        x.call(0);
        x.come(1, 4);
        x.pass(1);
        Due.is("one by hand, one by its count", x.count(5), 2);
        x.call(0);
        Due.is("a refused one is none", x.count(5), 2);
    }

    static void promise11_theLengthOfThePadIs80AtMost() {
        Card x = new Card();
        x.type("f".repeat(80));
        Due.is("length", x.count(11), 80);
        x.put('f');
        Due.is("length", x.count(11), 80);
    }

    static void promise11_sixChangesCanBeUndoneAtMost() {
        Card x = new Card();
        for (int n = 1; n <= 8; n++) {
            x.set(COST, n);
            Due.is("after " + n, x.count(12), Math.min(n, 6));
        }
    }

    // ---- promise 12: "Returns the first of these that is so"

    static void promise12_queuesAre0To2() {
        for (int queue : Edges.beyond(0, 2)) {
            Edges.refused("why(" + queue + ")", Edges::rich, x -> x.why(queue), NO_SUCH);
        }
        Card x = new Card();
        x.come(0, 4);
        x.come(1);
        Due.is("why(0)", x.why(0), 0);
        Due.is("why(1)", x.why(1), 4);
        Due.is("why(2)", x.why(2), 3);
    }

    static void promise12_theRowIsAheadOfTheMaskAndOfNoFrames() {
        Card x = new Card();
        x.come(0, 4);
        x.call(0);
        Due.is("with frames enough", x.why(0), 1);
        x.mask(0);
        Due.is("masked", x.why(0), 1);
        x.pass(1);
        Due.is("masked, without frames", x.why(0), 1);
        x.mask(0);
        Due.is("without frames", x.why(0), 1);
    }

    static void promise12_theMaskIsAheadOfNoFramesAndOfFewFrames() {
        Card x = new Card();
        x.mask(0);
        Due.is("without frames", x.why(0), 2);
        x.come(0);
        Due.is("with few frames", x.why(0), 2);
        x.come(0, 3);
        Due.is("with frames enough", x.why(0), 2);
        x.mask(0);
        Due.is("not masked", x.why(0), 0);
    }

    static void promise12_theMaskIsByHandAlone() {
        Card x = new Card();
        x.come(0, 4);
        x.call(0);
        x.pass(2);
        Due.is("after polls", x.why(0), 3);
    }

    static void promise12_noFramesIsAheadOfFewFrames() {
        Card x = new Card();
        Due.is("a new card", x.why(0), 3);
        x.bounds(0, 1, 1);
        x.pass(50);
        Due.is("whatever the bounds", x.why(0), 3);
        x.come(0);
        x.call(0);
        x.pass(1);
        Due.is("when all are taken", x.why(0), 3);
    }

    static void promise12_aCountJustReached() {
        Card x = new Card();
        x.bounds(0, 3, 99);
        x.come(0, 2);
        Due.is("one less", x.why(0), 4);
        x.come(0);
        Due.is("just as many", x.why(0), 0);
        x.come(0);
        Due.is("more", x.why(0), 0);
    }

    static void promise12_theCountIsTheOneInUse() {
        Card x = new Card();
        x.set(FOLLOW, 1);
        x.come(0);
        x.call(0);
        x.pass(1);
        x.come(0, 2);
        Due.is("two of two, not of four", x.why(0), 0);
    }

    static void promise12_aWaitJustReached() {
        Card x = new Card();
        x.bounds(0, 32, 3);
        x.come(0);
        x.pass(2);
        Due.is("one tick less", x.why(0), 4);
        x.pass(1);
        Due.is("just as many", x.why(0), 0);
        Due.is("it has not called yet", x.of(0, 6), 0);
        x.pass(1);
        Due.is("it has called", x.why(0), 1);
    }

    static void promise12_whateverThePollOfThisTickDoes() {
        Card x = new Card();
        x.come(0);
        x.call(0);
        Due.is("it would leave the row", x.why(0), 1);
        x.come(1, 4);
        Due.is("one that is not polled", x.why(1), 0);
        x.pass(1);
        x.come(0);
        Due.is("the poll of 1 takes nothing from 0", x.why(0), 4);
    }

    static void promise12_nothingIsChangedByIt() {
        Edges.keeps("why(0)", Edges::rich, x -> x.why(0), 1);
        Edges.keeps("why(2)", Edges::rich, x -> x.why(2), 2);
    }

    // ---- promise 13: "Returns how many (1: in the next one)"

    static void promise13_framesAre0ToTheLastOne() {
        for (int frame : Edges.beyond(0, 12)) {
            Edges.refused("takenIn(" + frame + ")", Edges::rich, x -> x.takenIn(frame), NO_SUCH);
        }
        Card x = new Card();
        x.come(0, 2);
        Due.is("the first one", x.takenIn(0), 12);
        Due.is("the last one", x.takenIn(1), 12);
        Due.is("none behind it", x.takenIn(2), NO_SUCH);
    }

    static void promise13_inTheNextTickIs1() {
        Card x = new Card();
        x.come(0, 5);
        x.call(0);
        Due.is("the fourth one", x.takenIn(3), 1);
        Due.is("the fifth one", x.takenIn(4), 2);
    }

    static void promise13_aTakenFrameIsInNoRing() {
        Edges.refused("takenIn(0)", Edges::rich, x -> x.takenIn(0), NOT_POSSIBLE);
    }

    static void promise13_aDroppedFrameIsInNoRing() {
        Edges.refused("takenIn(7)", Edges::rich, x -> x.takenIn(7), NOT_POSSIBLE);
    }

    // "NONE if it is not within 500": a frame that is taken at all is taken far earlier, as no wait is above 99, and
    // the row gives all its frames in 96 ticks; so the 500 ticks show in frames that are never taken alone

    static void promise13_aFrameThatIsNeverTakenIsNotWithin500() {
        Card x = new Card();
        x.come(0);
        x.mask(0);
        Due.is("masked", x.takenIn(0), NONE);
        x.come(0, 9);
        Due.is("with frames enough", x.takenIn(0), NONE);
        Due.is("the last of them", x.takenIn(9), NONE);
        x.mask(0);
        Due.is("not masked", x.takenIn(0), 2);
    }

    static void promise13_aMaskedQueueInTheRowIsTaken() {
        Card x = new Card();
        x.come(0, 5);
        x.call(0);
        x.mask(0);
        Due.is("the first one", x.takenIn(0), 1);
        Due.is("the last one", x.takenIn(4), 2);
    }

    static void promise13_theLongestThatAFrameOfTheRowCanTake() {
        Card x = new Card();
        x.set(RING, 32);
        x.set(BUDGET, 1);
        for (int queue = 0; queue < 3; queue++) {
            x.bounds(queue, 32, 99);
        }
        x.order("f0*31;f1*31;f2*31");
        Due.is("the first frame: 99 ticks, the call, the poll", x.takenIn(0), 99 + 1 + 1);
        Due.is("the last one: 31 turns of three", x.takenIn(92), 99 + 1 + 3 * 31);
        x.order("f0;f1;f2");
        Due.is("32 frames of each call at once", x.takenIn(95), 1 + 3 * 32);
    }

    static void promise13_theBoundOfTheTimeDoesNotMatter() {
        Card x = new Card();
        x.passTo(9999);
        x.come(0);
        Due.is("at 9999", x.takenIn(0), 12);
        x.mask(0);
        Due.is("never", x.takenIn(0), NONE);
        Due.is("no tick passes all the same", x.pass(1), NOT_POSSIBLE);
    }

    static void promise13_nothingIsChangedByIt() {
        Edges.keeps("takenIn(3)", Edges::rich, x -> x.takenIn(3), Edges.rich().takenIn(3));
        Edges.keeps("takenIn of a masked one", Edges::rich, x -> x.takenIn(4), NONE);
    }

    // ---- promise 14: "BAD_VALUE if ticks or what is out of range"

    static void promise14_ticksAre1To99() {
        for (int ticks : Edges.beyond(1, 99)) {
            Edges.refused("would(" + ticks + ", 0)", Edges::rich, x -> x.would(ticks, 0), BAD_VALUE);
        }
        Card x = new Card();
        x.come(0, 9);
        x.call(0);
        Due.is("a tick", x.would(1, 0), 4);
        Due.is("99 ticks", x.would(99, 0), 9);
    }

    static void promise14_the99thTickCounts() {
        Card x = new Card();
        x.bounds(0, 32, 97);
        x.come(0);
        Due.is("98 ticks", x.would(98, 0), 0);
        Due.is("99 ticks", x.would(99, 0), 1);
        x.bounds(0, 32, 98);
        Due.is("the poll would be in the 100th", x.would(99, 0), 0);
        Due.is("the call is in the 99th", x.would(99, 1), 1);
    }

    static void promise14_whatIs0To3() {
        for (int what : Edges.beyond(0, 3)) {
            Edges.refused("would(1, " + what + ")", Edges::rich, x -> x.would(1, what), BAD_VALUE);
        }
        Card x = new Card();
        x.come(0, 5);
        x.come(1);
        x.pass(1);
        Due.is("taken", x.would(1, 0), 4);
        Due.is("calls", x.would(12, 1), 1);
        Due.is("waits", x.would(1, 2), 4);
        Due.is("in rings", x.would(1, 3), 2);
    }

    static void promise14_whatCameBeforeDoesNotCount() {
        Card x = new Card();
        x.come(0, 9);
        x.pass(9);
        x.come(1);
        Due.is("taken", x.would(99, 0), 1);
        Due.is("calls", x.would(99, 1), 1);
        Due.is("waits", x.would(99, 2), 11);
        Due.is("in rings", x.would(99, 3), 0);
    }

    static void promise14_onAnEmptyCardNothingComes() {
        Card x = new Card();
        for (int what = 0; what <= 3; what++) {
            Due.is("would(99, " + what + ")", x.would(99, what), 0);
        }
    }

    static void promise14_theBoundOfTheTimeDoesNotMatter() {
        Card x = new Card();
        x.passTo(9999);
        x.come(0);
        Due.is("in 11", x.would(11, 0), 0);
        Due.is("in 12", x.would(12, 0), 1);
        Due.is("in 99", x.would(99, 2), 11);
    }

    static void promise14_nothingIsChangedByIt() {
        for (int what = 0; what <= 3; what++) {
            int asked = what;
            Edges.keeps("would(99, " + what + ")", Edges::rich, x -> x.would(99, asked), Edges.rich().would(99, what));
        }
    }

    // ---- promise 15: "NO_SUCH if there is no such queue; BAD_VALUE if gap or what is out of range"

    private static void best(Card x, int queue, int gap, int count, int cost) {
        Due.is("bestCount(" + queue + ", " + gap + ", 0)", x.bestCount(queue, gap, 0), count);
        Due.is("bestCount(" + queue + ", " + gap + ", 1)", x.bestCount(queue, gap, 1), cost);
    }

    static void promise15_queuesAre0To2() {
        for (int queue : Edges.beyond(0, 2)) {
            Edges.refused("bestCount(" + queue + ", 1, 0)", Edges::rich, x -> x.bestCount(queue, 1, 0), NO_SUCH);
        }
        Card x = new Card();
        for (int queue = 0; queue < 3; queue++) {
            best(x, queue, 1, 4, 50);
        }
    }

    static void promise15_gapIs1To20() {
        for (int gap : Edges.beyond(1, 20)) {
            Edges.refused("bestCount(0, " + gap + ", 0)", Edges::rich, x -> x.bestCount(0, gap, 0), BAD_VALUE);
        }
        Card x = new Card();
        // three calls of four frames, which wait for 4 + 3 + 2 + 1 ticks; two more come behind the first and the second
        // four, while the queue is in the row, and wait for 1 + 0 ticks
        best(x, 0, 1, 4, 3 * 10 + 2 * 1 + 3 * 6);
        best(x, 0, 20, 1, 16 * (1 + 6));
    }

    static void promise15_whatIs0Or1() {
        for (int what : Edges.beyond(0, 1)) {
            Edges.refused("bestCount(0, 1, " + what + ")", Edges::rich, x -> x.bestCount(0, 1, what), BAD_VALUE);
        }
        best(new Card(), 0, 20, 1, 112);
    }

    static void promise15_ofSeveralItIsTheLeastCount() {
        Card x = new Card();
        x.set(COST, 50);
        x.bounds(0, 9, 1);
        // by the wait of 1 three at a time, for all counts above 1
        best(x, 0, 1, 2, 5 * (2 + 1 + 0 + 50) + 2 + 50);
        x.set(RING, 1);
        x.bounds(0, 9, 10);
        // two frames come in for all counts above 1, and all others are dropped
        best(x, 0, 1, 2, 2 * (11 + 50));
    }

    // "the count of a queue, 1 to 32": no settings were found by which the answer is above 24

    static void promise15_countsBeginWith1() {
        Card x = new Card();
        x.set(COST, 0);
        best(x, 0, 20, 1, 16);
    }

    static void promise15_aCountAboveAllFramesCanBeBest() {
        Card x = new Card();
        x.set(RING, 1);
        x.set(FOLLOW, 1);
        x.set(COST, 25);
        x.bounds(1, 9, 45);
        // 24, 12, 6, 3 and then 1: the first four frames wait for 46 ticks, in which two are dropped; 25 to 31 cost the
        // same, 16 to 23 and 32 come to 2, where each frame waits
        best(x, 1, 17, 24, 4 * (46 + 25) + 4 * (1 + 25));
    }

    static void promise15_sixteenFramesCome() {
        Card x = new Card();
        x.set(COST, 50);
        x.set(RING, 32);
        x.set(BUDGET, 16);
        x.bounds(0, 4, 99);
        // 8 frames by each call, as one comes in the tick of the poll: after 16 of them nothing is left that waits
        best(x, 0, 1, 7, 2 * (28 + 50));
    }

    static void promise15_ticksPassUntilNoFrameIsThere() {
        Card x = new Card();
        x.set(RING, 1);
        x.set(COST, 50);
        x.bounds(0, 4, 99);
        // the first frame waits for 100 ticks, when all others have long been dropped; 1 would call eight times
        best(x, 0, 1, 2, 100 + 50);
    }

    static void promise15_theBoundsOfTheQueueOnTheCardDoNotChange() {
        Card x = new Card();
        x.set(FOLLOW, 1);
        x.come(0);
        x.call(0);
        x.pass(1);
        best(x, 0, 20, 1, 112);
        x.queueIs(0, 4, 10, 2);
    }

    static void promise15_onAnEmptyCardWithoutMasks() {
        Card x = new Card();
        x.order("f0*9;f1*9;f2*4;t2;f0*9;m0;m1;m2");
        for (int queue = 0; queue < 3; queue++) {
            Due.is("queue " + queue + " is in the row", x.of(queue, 4), 1);
            best(x, queue, 20, 1, 112);
            best(x, queue, 1, 4, 50);
        }
    }

    static void promise15_earlierQuestionsDoNotMatter() {
        Card x = new Card();
        x.order("f0*9;f1*9;f2*4;t2;f0*9;m0;m1;m2");
        for (int queue = 0; queue < 3; queue++) {
            Due.is("in the rings after a tick", x.would(1, 3), 5 + 9 + 9 + 4 - 4);
            best(x, queue, 20, 1, 112);
            Due.is("a frame of the row", x.takenIn(9), 1);
            best(x, queue, 1, 4, 50);
        }
        Card y = new Card();
        y.order("f0*9;m0");
        Due.is("never", y.takenIn(0), NONE);
        best(y, 0, 20, 1, 112);
    }

    static void promise15_theBoundsOfTimeAndFramesDoNotMatter() {
        Card x = fourHundred();
        x.passTo(9999);
        Due.is("no frame comes", x.come(0), TOO_MANY);
        best(x, 0, 20, 1, 112);
    }

    static void promise15_nothingIsChangedByIt() {
        Edges.keeps("bestCount(1, 20, 0)", Edges::rich, x -> x.bestCount(1, 20, 0), 1);
        Edges.keeps("bestCount(1, 20, 1)", Edges::rich, x -> x.bestCount(1, 20, 1), 16 * (1 + 9));
    }

    // ---- cards

    private static Card fourHundred() {
        Card x = new Card();
        x.order("f0*99;f1*99;f2*99;f0*99;f1*4");
        return x;
    }
}
