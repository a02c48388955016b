/** The boundary cases of "Terms": conventions, settings, queues, frames, the tick. Texts have tests of their own. */
public final class TermsEdgesTests {
    private static final int NO_SUCH = -1, BAD_VALUE = -2, TOO_MANY = -4, NOT_POSSIBLE = -5, NONE = -6;
    private static final int RING = 0, BUDGET = 1, FOLLOW = 2, COST = 3;

    private TermsEdgesTests() {
    }

    public static void main(String[] args) throws IllegalAccessException {
        Edges.run(TermsEdgesTests.class);
    }

    // "An object is used for at most 512 calls"

    static void terms_anObjectAnswers512Calls() {
        Card x = new Card();
        for (int n = 1; n <= 512; n++) {
            Due.is("call " + n, x.mask(1), n % 2);
        }
    }

    // ---- conventions: "names its errors in the order in which they are checked, and the first one that applies"

    static void terms_boundsAnswersNoSuchAheadOfBadValue() {
        Edges.refused("bounds(3, 0, 5)", Edges::rich, x -> x.bounds(3, 0, 5), NO_SUCH);
        Edges.refused("bounds(-1, 5, 100)", Edges::rich, x -> x.bounds(-1, 5, 100), NO_SUCH);
    }

    static void terms_comeAnswersBadValueAheadOfTooMany() {
        Edges.refused("come(100)", TermsEdgesTests::fourHundred, x -> x.come(100), BAD_VALUE);
        Edges.refused("come(-1)", TermsEdgesTests::fourHundred, x -> x.come(-1), BAD_VALUE);
        Edges.refused("come(99)", TermsEdgesTests::fourHundred, x -> x.come(99), TOO_MANY);
    }

    static void terms_callAnswersNoSuchAheadOfNotPossible() {
        Edges.refused("call(3)", Card::new, x -> x.call(3), NO_SUCH);
        Edges.refused("call(2)", Card::new, x -> x.call(2), NOT_POSSIBLE);
    }

    static void terms_passAnswersBadValueAheadOfNotPossible() {
        Edges.refused("pass(0)", TermsEdgesTests::atTheEndOfTime, x -> x.pass(0), BAD_VALUE);
        Edges.refused("pass(100)", TermsEdgesTests::atTheEndOfTime, x -> x.pass(100), BAD_VALUE);
        Edges.refused("pass(99)", TermsEdgesTests::atTheEndOfTime, x -> x.pass(99), NOT_POSSIBLE);
    }

    static void terms_ofAnswersNoSuchAheadOfBadValue() {
        Edges.refused("of(3, 13)", Edges::rich, x -> x.of(3, 13), NO_SUCH);
        Edges.refused("of(-1, -1)", Edges::rich, x -> x.of(-1, -1), NO_SUCH);
    }

    static void terms_frameAnswersNoSuchAheadOfBadValue() {
        Edges.refused("frame(13, 4)", Edges::rich, x -> x.frame(13, 4), NO_SUCH);
        Edges.refused("frame(12, 4)", Edges::rich, x -> x.frame(12, 4), BAD_VALUE);
    }

    static void terms_takenInAnswersNoSuchAheadOfNotPossible() {
        Edges.refused("takenIn of a frame that has not come", Edges::rich, x -> x.takenIn(13), NO_SUCH);
        Edges.refused("takenIn of a dropped frame", Edges::rich, x -> x.takenIn(7), NOT_POSSIBLE);
    }

    static void terms_bestCountAnswersNoSuchAheadOfBadValue() {
        Edges.refused("bestCount(3, 0, 0)", Edges::rich, x -> x.bestCount(3, 0, 0), NO_SUCH);
        Edges.refused("bestCount(-1, 1, 2)", Edges::rich, x -> x.bestCount(-1, 1, 2), NO_SUCH);
    }

    static void terms_putAnswersBadValueAheadOfTooMany() {
        Edges.refused("put(32) on a full pad", TermsEdgesTests::fullPad, x -> x.put(32), BAD_VALUE);
        Edges.refused("put(0) on a full pad", TermsEdgesTests::fullPad, x -> x.put(0), BAD_VALUE);
        Edges.refused("put(33) on a full pad", TermsEdgesTests::fullPad, x -> x.put(33), TOO_MANY);
    }

    static void terms_restoreAnswersBadValueAheadOfNotPossible() {
        Edges.refused("restore(2) of nothing", Card::new, x -> x.restore(2), BAD_VALUE);
        Edges.refused("restore(1) of nothing", Card::new, x -> x.restore(1), NOT_POSSIBLE);
    }

    // "NONE (-6) ... is returned only if no error applies"

    static void terms_noneIsAnsweredOnlyIfNoErrorApplies() {
        Card x = new Card();
        Due.is("the oldest frame of no queue", x.of(3, 12), NO_SUCH);
        Due.is("the oldest frame of an empty queue", x.of(2, 12), NONE);
        x.set(RING, 1);
        x.come(0, 2);
        Due.is("the wait of a dropped frame", x.frame(1, 3), NONE);
        Due.is("what there is not of a dropped frame", x.frame(1, 4), BAD_VALUE);
        Due.is("takenIn of a dropped frame", x.takenIn(1), NOT_POSSIBLE);
        Due.is("takenIn of no frame", x.takenIn(2), NO_SUCH);
    }

    // "Everything is numbered from 0", "Sets of queues are bit masks"

    static void terms_everythingIsNumberedFrom0() {
        Card x = new Card();
        Due.is("the first frame", x.come(0), 0);
        Due.is("its queue", x.of(0, 3), 1);
        Due.is("the first place in the row", x.call(0), 0);
        Due.is("the first queue of the row", x.row(0), 0);
        Due.is("the first slot", x.save(0), 1);
        Due.is("the first setting", x.set(0, 16), 16);
    }

    static void terms_setsOfQueuesAreBitMasks() {
        int[] sets = {1, 3, 7, 6, 4, 0};
        int[] masks = {0, 1, 2, 0, 1, 2};
        Card x = new Card();
        Due.is("none", x.count(6), 0);
        for (int n = 0; n < sets.length; n++) {
            x.mask(masks[n]);
            Due.is("after mask(" + masks[n] + ")", x.count(6), sets[n]);
        }
    }

    // "Divisions are rounded down"

    static void terms_halfOfTheCountInUseIsRoundedDown() {
        Due.is("5 after 1 frame", inUseAfter(5, 1), 2);
        Due.is("7 after 1 frame", inUseAfter(7, 1), 3);
        Due.is("31 after 15 frames", inUseAfter(31, 15), 15);
    }

    // ---- settings: "(In parentheses: range; first value.)", and what they do at the ends of the ranges

    static void terms_firstValueOfRingIs16() {
        Card x = new Card();
        Due.is("RING", x.count(7), 16);
        x.come(0, 17);
        Due.is("the 16th frame", x.frame(15, 2), 0);
        Due.is("the 17th frame", x.frame(16, 2), 2);
    }

    static void terms_firstValueOfBudgetIs4() {
        Card x = new Card();
        Due.is("BUDGET", x.count(8), 4);
        x.come(0, 9);
        x.call(0);
        Due.is("taken in a tick", x.pass(1), 4);
    }

    static void terms_firstValueOfFollowIs0() {
        Card x = new Card();
        Due.is("FOLLOW", x.count(9), 0);
        x.come(0, 9);
        x.pass(9);
        Due.is("nine are more than twice four", x.of(0, 7), 9);
        Due.is("but the count in use", x.of(0, 2), 4);
    }

    static void terms_firstValueOfCostIs6() {
        Card x = new Card();
        Due.is("COST", x.count(10), 6);
        Due.is("16 calls, and a tick for each", x.bestCount(0, 20, 1), 16 * (1 + 6));
    }

    static void terms_ringOf1HoldsOneFrame() {
        Card x = new Card();
        x.set(RING, 1);
        x.come(0, 2);
        Due.is("the first", x.frame(0, 2), 0);
        Due.is("the second", x.frame(1, 2), 2);
    }

    static void terms_ringOf32Holds32Frames() {
        Card x = new Card();
        x.set(RING, 32);
        x.come(0, 33);
        Due.is("the 32nd", x.frame(31, 2), 0);
        Due.is("the 33rd", x.frame(32, 2), 2);
        Due.is("in the ring", x.of(0, 3), 32);
    }

    static void terms_budgetOf1TakesOneFrameInATick() {
        Card x = called(1, 2);
        Due.is("the first", x.pass(1), 1);
        Due.is("it is in the row", x.of(0, 4), 1);
        Due.is("the second", x.pass(1), 1);
        Due.is("it is in the row yet", x.of(0, 4), 1);
        Due.is("none", x.pass(1), 0);
        Due.is("then it is idle", x.of(0, 4), 0);
    }

    static void terms_budgetOf16Takes16FramesInATick() {
        Card x = called(16, 17);
        Due.is("sixteen", x.pass(1), 16);
        Due.is("one", x.pass(1), 1);
    }

    static void terms_costOf0MakesCallsFree() {
        Card x = new Card();
        x.set(COST, 0);
        Due.is("a tick for each frame", x.bestCount(0, 20, 1), 16);
    }

    static void terms_costOf50IsThatOf50TicksOfWaiting() {
        Card x = new Card();
        x.set(COST, 50);
        Due.is("a tick and a call for each frame", x.bestCount(0, 20, 1), 16 * (1 + 50));
    }

    // ---- queues, frames: "each with a count (1 to 32; 4 at first) and a wait (1 to 99; 10 at first)"

    static void terms_firstCountOfEachQueueIs4() {
        for (int queue = 0; queue < 3; queue++) {
            Card x = new Card();
            Due.is("its count", x.of(queue, 0), 4);
            x.come(queue, 3);
            x.pass(1);
            Due.is("three frames", x.of(queue, 4), 0);
            x.come(queue);
            x.pass(1);
            Due.is("four frames", x.of(queue, 4), 1);
        }
    }

    static void terms_firstWaitOfEachQueueIs10() {
        for (int queue = 0; queue < 3; queue++) {
            Card x = new Card();
            Due.is("its wait", x.of(queue, 1), 10);
            x.come(queue);
            x.pass(10);
            Due.is("in the tick of time 9", x.of(queue, 4), 0);
            x.pass(1);
            Due.is("in the tick of time 10", x.of(queue, 4), 1);
        }
    }

    static void terms_firstCountInUseIsThatOfTheQueue() {
        Card x = new Card();
        for (int queue = 0; queue < 3; queue++) {
            Due.is("the count in use", x.of(queue, 2), 4);
        }
        x.bounds(1, 9, 9);
        Due.is("of another queue", x.of(2, 2), 4);
    }

    // "come to the queue f left over by 3", "numbered ... on all queues together", "at the time of now"

    static void terms_aFrameComesToTheQueueOfItsFlowLeftOverBy3() {
        int[] flows = {0, 1, 2, 3, 4, 5, 97, 98, 99};
        int[] queues = {0, 1, 2, 0, 1, 2, 1, 2, 0};
        for (int n = 0; n < flows.length; n++) {
            Card x = new Card();
            x.come(flows[n]);
            for (int queue = 0; queue < 3; queue++) {
                Due.is("flow " + flows[n] + " in queue " + queue, x.of(queue, 3), queue == queues[n] ? 1 : 0);
            }
        }
    }

    static void terms_framesAreNumberedOnAllQueuesTogether() {
        Card x = new Card();
        int[] flows = {2, 0, 1, 1, 0, 2};
        for (int n = 0; n < flows.length; n++) {
            Due.is("the frame", x.come(flows[n]), n);
        }
        x.pass(20);
        Due.is("also when others have been taken", x.come(1), 6);
    }

    static void terms_aFrameComesAtTheTimeOfNow() {
        Card x = new Card();
        x.come(0);
        x.pass(7);
        x.come(0);
        Due.is("at first", x.frame(0, 1), 0);
        Due.is("after seven ticks", x.frame(1, 1), 7);
    }

    // "if the ring has RING frames or more, it is dropped (it has a number all the same)"

    static void terms_aRingWithOneFrameLessThanRingTakesOneMore() {
        Card x = filled(5, 4);
        Due.is("the fifth", x.come(0), 4);
        x.frameIs(4, 0, 0, 0, 0);
        Due.is("in the ring", x.of(0, 3), 5);
        Due.is("dropped", x.of(0, 8), 0);
    }

    static void terms_aRingWithJustRingFramesDrops() {
        Card x = filled(5, 5);
        x.come(0);
        x.frameIs(5, 0, 0, 2, NONE);
        Due.is("in the ring", x.of(0, 3), 5);
        Due.is("dropped", x.of(0, 8), 1);
    }

    static void terms_aRingWithMoreThanRingFramesDrops() {
        Card x = filled(5, 5);
        x.set(RING, 2);
        x.come(0);
        x.frameIs(5, 0, 0, 2, NONE);
        Due.is("in the ring", x.of(0, 3), 5);
        x.set(RING, 6);
        x.come(0);
        Due.is("there is room again", x.frame(6, 2), 0);
    }

    static void terms_aDroppedFrameHasANumberAllTheSame() {
        Card x = filled(1, 1);
        Due.is("it has a number", x.come(3), 1);
        Due.is("so has the next one", x.come(6), 2);
        Due.is("and one on another queue", x.come(1), 3);
        Due.is("frames that came", x.count(1), 4);
        Due.is("its flow", x.frame(1, 0), 3);
        Due.is("it is nowhere else", x.of(0, 7) + x.of(0, 9), 0);
    }

    static void terms_aFullRingIsThatOfItsQueueAlone() {
        Card x = filled(2, 2);
        x.come(1);
        x.come(2);
        Due.is("dropped on all", x.count(4), 0);
        x.come(0);
        Due.is("dropped on 0", x.of(0, 8), 1);
        Due.is("dropped on 1", x.of(1, 8), 0);
    }

    static void terms_aFullRingHasRoomWhenAFrameIsTaken() {
        Card x = filled(2, 2);
        x.set(BUDGET, 1);
        x.call(0);
        x.come(0);
        x.pass(1);
        x.come(0);
        x.come(0);
        Due.is("ahead of the poll", x.frame(2, 2), 2);
        Due.is("after it", x.frame(3, 2), 0);
        Due.is("full again", x.frame(4, 2), 2);
    }

    // "up to 400 come": the dropped ones too

    static void terms_upTo400FramesCome() {
        Card x = new Card();
        Due.is("399", x.order("f0*99;f1*99;f2*99;f0*99;f1*3"), 399);
        Due.is("most of them are dropped", x.count(4), 399 - 48);
        Due.is("the 400th", x.come(2), 399);
        Due.is("one more", x.come(2), TOO_MANY);
        Due.is("came", x.count(1), 400);
    }

    static void terms_theFrameBeyond400ChangesNothing() {
        Edges.refused("come(0)", TermsEdgesTests::fourHundred, x -> x.come(0), TOO_MANY);
    }

    // ---- a tick, 1: "If the row is not empty, its first queue is polled"

    static void terms_anEmptyRowIsNotPolled() {
        Card x = new Card();
        x.come(0, 3);
        Due.is("taken", x.pass(1), 0);
        Due.is("in the ring", x.of(0, 3), 3);
        Due.is("time", x.count(0), 1);
        Due.is("calls", x.count(5), 0);
        x.rowIs();
    }

    static void terms_onlyTheFirstQueueOfTheRowIsPolled() {
        Card x = new Card();
        x.come(2);
        x.come(1);
        x.call(2);
        x.call(1);
        Due.is("taken", x.pass(1), 1);
        Due.is("of the first one", x.of(2, 7), 1);
        Due.is("of the other one", x.of(1, 7), 0);
        x.rowIs(1);
    }

    static void terms_aPollOfFewerThanBudgetMakesTheQueueIdle() {
        Card x = called(5, 4);
        Due.is("taken", x.pass(1), 4);
        x.rowIs();
        Due.is("in the row", x.of(0, 4), 0);
        Due.is("since it called", x.of(0, 11), 0);
    }

    static void terms_aPollOfJustBudgetLeavesTheQueueInTheRow() {
        Card x = called(5, 5);
        Due.is("taken", x.pass(1), 5);
        Due.is("its ring is empty", x.of(0, 3), 0);
        x.rowIs(0);
        Due.is("since it called", x.of(0, 11), 5);
    }

    static void terms_aPollOfMoreThanBudgetTakesTheOldestOnes() {
        Card x = called(5, 6);
        Due.is("taken", x.pass(1), 5);
        Due.is("the fifth", x.frame(4, 2), 1);
        Due.is("the sixth", x.frame(5, 2), 0);
        x.rowIs(0);
    }

    static void terms_aPollOfNoneMakesTheQueueIdle() {
        Card x = called(5, 5);
        x.pass(1);
        Due.is("taken", x.pass(1), 0);
        x.rowIs();
        Due.is("since it called", x.of(0, 11), 0);
        Due.is("taken at all", x.of(0, 7), 5);
    }

    static void terms_framesThatComeInTheRowCountForThePoll() {
        Card x = called(5, 4);
        x.come(0);
        Due.is("five", x.pass(1), 5);
        x.rowIs(0);
        x.come(0, 4);
        Due.is("four", x.pass(1), 4);
        x.rowIs();
    }

    static void terms_aPolledQueueGoesToTheEndOfTheRow() {
        Card x = new Card();
        x.set(BUDGET, 1);
        x.order("f0*2;f1*2;f2*2");
        x.call(1);
        x.call(2);
        x.call(0);
        x.rowIs(1, 2, 0);
        x.pass(1);
        x.rowIs(2, 0, 1);
        x.pass(1);
        x.rowIs(0, 1, 2);
    }

    static void terms_aPolledQueueIsAtTheEndAheadOfThoseThatCallThen() {
        Card x = new Card();
        x.set(BUDGET, 1);
        x.come(2, 2);
        x.call(2);
        x.come(0, 4);
        x.pass(1);
        x.rowIs(2, 0);
    }

    static void terms_theQueuesBehindOneThatLeavesMoveUp() {
        Card x = new Card();
        x.order("f0;f1;f2");
        x.call(1);
        x.call(2);
        x.call(0);
        x.pass(1);
        x.rowIs(2, 0);
        x.pass(1);
        x.rowIs(0);
    }

    static void terms_aFrameWaitsAsManyTicksAsTheTimeIsAboveThatAtWhichItCame() {
        Card x = new Card();
        x.come(0);
        x.pass(3);
        x.come(0);
        x.call(0);
        x.pass(1);
        Due.is("the older one", x.frame(0, 3), 3);
        Due.is("one that came just now", x.frame(1, 3), 0);
        Due.is("together", x.of(0, 9), 3);
    }

    // 2: "Each queue that is idle, is not masked by hand, and has frames calls ... if its ring has as many as its
    // count in use, or more, or its oldest frame came as many ticks ago as its wait, or more"

    static void terms_oneFrameLessThanTheCountDoesNotCall() {
        for (int count : new int[] {2, 3, 31, 32}) {
            Card x = waiting(count, 99, count - 1);
            x.pass(1);
            Due.is("a count of " + count, x.of(0, 4), 0);
            Due.is("calls", x.of(0, 6), 0);
        }
    }

    static void terms_asManyFramesAsTheCountCall() {
        for (int count : new int[] {1, 2, 3, 31, 32}) {
            Card x = waiting(count, 99, count);
            x.pass(1);
            Due.is("a count of " + count, x.of(0, 4), 1);
            Due.is("calls", x.of(0, 6), 1);
        }
    }

    static void terms_moreFramesThanTheCountCall() {
        Card x = waiting(3, 99, 4);
        x.pass(1);
        x.rowIs(0);
    }

    static void terms_aTickLessThanTheWaitDoesNotCall() {
        for (int wait : new int[] {1, 2, 50, 99}) {
            Card x = waiting(32, wait, 1);
            x.pass(wait);
            Due.is("a wait of " + wait, x.of(0, 4), 0);
        }
    }

    static void terms_asManyTicksAsTheWaitCall() {
        for (int wait : new int[] {1, 2, 50, 98}) {
            Card x = waiting(32, wait, 1);
            x.pass(wait + 1);
            Due.is("a wait of " + wait, x.of(0, 4), 1);
        }
        Card x = waiting(32, 99, 1);
        x.pass(99);
        Due.is("99 ticks, the last one at time 98", x.of(0, 4), 0);
        x.pass(1);
        Due.is("a wait of 99", x.of(0, 4), 1);
    }

    static void terms_moreTicksThanTheWaitCall() {
        Card x = waiting(32, 99, 1);
        x.pass(20);
        x.bounds(0, 32, 5);
        Due.is("not at once", x.of(0, 4), 0);
        x.pass(1);
        Due.is("in the next tick", x.of(0, 4), 1);
    }

    static void terms_theWaitIsThatOfTheOldestFrame() {
        Card x = waiting(32, 5, 1);
        x.pass(4);
        x.come(0);
        x.pass(1);
        Due.is("four ticks", x.of(0, 4), 0);
        x.pass(1);
        Due.is("five ticks of the oldest, one of the other", x.of(0, 4), 1);
    }

    static void terms_aMaskedQueueDoesNotCall() {
        Card x = waiting(3, 5, 3);
        x.mask(0);
        x.pass(1);
        Due.is("with its count", x.of(0, 4), 0);
        x.pass(9);
        Due.is("after its wait", x.of(0, 4), 0);
        Due.is("calls", x.of(0, 6), 0);
        x.mask(0);
        x.pass(1);
        Due.is("not masked", x.of(0, 4), 1);
    }

    static void terms_aMaskedQueueInTheRowIsPolledAllTheSame() {
        Card x = called(2, 3);
        x.mask(0);
        Due.is("two", x.pass(1), 2);
        x.rowIs(0);
        Due.is("one", x.pass(1), 1);
        x.rowIs();
    }

    static void terms_aQueueWithoutFramesDoesNotCall() {
        Card x = new Card();
        x.bounds(0, 1, 1);
        x.pass(50);
        Due.is("calls of a new card", x.count(5), 0);
        x.come(0);
        x.pass(2);
        Due.is("calls when it had one", x.of(0, 6), 1);
        x.pass(50);
        Due.is("calls when that was taken", x.of(0, 6), 1);
    }

    static void terms_aQueueInTheRowDoesNotCallAgain() {
        Card x = new Card();
        x.set(BUDGET, 1);
        x.bounds(0, 1, 1);
        x.come(0, 5);
        x.pass(1);
        Due.is("the call", x.of(0, 6), 1);
        x.pass(4);
        Due.is("it has frames enough all the time", x.of(0, 7), 4);
        Due.is("no more calls", x.of(0, 6), 1);
    }

    static void terms_aQueueThatCallsIsPolledInTheNextTick() {
        Card x = waiting(1, 99, 1);
        Due.is("in the tick of its call", x.pass(1), 0);
        Due.is("in the next one", x.pass(1), 1);
    }

    static void terms_aQueueThatLeftTheRowCallsAgainForTheNextFrame() {
        Card x = waiting(1, 99, 1);
        x.pass(2);
        Due.is("it is idle", x.of(0, 4), 0);
        x.come(0);
        x.pass(1);
        Due.is("it has called", x.of(0, 4), 1);
        Due.is("calls", x.of(0, 6), 2);
    }

    static void terms_queuesCallByNumbers() {
        Card x = new Card();
        x.order("f2*4;f1*4;f0*4");
        x.pass(1);
        x.rowIs(0, 1, 2);
    }

    static void terms_aQueueThatCallsIsAtTheEndOfTheRow() {
        Card x = new Card();
        x.set(BUDGET, 1);
        x.order("f2*2;f1*2");
        x.call(2);
        x.call(1);
        x.come(0, 4);
        x.pass(1);
        x.rowIs(1, 2, 0);
    }

    // 3: "The time is 1 more"

    static void terms_theTimeIs1MoreAfterATick() {
        Card x = new Card();
        Due.is("at first", x.count(0), 0);
        x.pass(1);
        Due.is("after one", x.count(0), 1);
        x.pass(99);
        Due.is("after 99 more", x.count(0), 100);
    }

    // ---- "If FOLLOW is 1, the count in use changes whenever a queue leaves the row"

    static void terms_twiceTheCountInUseIsNotMoreThanTwice() {
        Due.is("1 after 2", inUseAfter(1, 2), 1);
        Due.is("4 after 8", inUseAfter(4, 8), 4);
        Due.is("16 after 32", inUseAfter(16, 32), 16);
    }

    static void terms_oneMoreThanTwiceTheCountInUseDoublesIt() {
        Due.is("1 after 3", inUseAfter(1, 3), 2);
        Due.is("4 after 9", inUseAfter(4, 9), 8);
        Due.is("15 after 31", inUseAfter(15, 31), 30);
    }

    static void terms_theCountInUseIs32AtMost() {
        Due.is("16 after 33", inUseAfter(16, 33), 32);
        Due.is("17 after 34", inUseAfter(17, 34), 17);
        Due.is("17 after 35", inUseAfter(17, 35), 32);
        Due.is("31 after 63", inUseAfter(31, 63), 32);
        Due.is("32 after 65", inUseAfter(32, 65), 32);
    }

    static void terms_halfOfTheCountInUseIsNotLessThanHalf() {
        Due.is("2 after 1", inUseAfter(2, 1), 2);
        Due.is("4 after 2", inUseAfter(4, 2), 4);
        Due.is("32 after 16", inUseAfter(32, 16), 32);
    }

    static void terms_lessThanHalfOfTheCountInUseHalvesIt() {
        Due.is("3 after 1", inUseAfter(3, 1), 1);
        Due.is("4 after 1", inUseAfter(4, 1), 2);
        Due.is("5 after 2", inUseAfter(5, 2), 2);
        Due.is("32 after 15", inUseAfter(32, 15), 16);
    }

    static void terms_theCountInUseIs1AtLeast() {
        Due.is("1 after 1", inUseAfter(1, 1), 1);
        Card x = new Card();
        x.set(FOLLOW, 1);
        x.bounds(0, 32, 1);
        for (int inUse : new int[] {16, 8, 4, 2, 2, 2}) {
            x.come(0);
            x.call(0);
            x.pass(1);
            Due.is("one frame a call", x.of(0, 2), inUse);
        }
        x.bounds(0, 3, 1);
        x.come(0);
        x.call(0);
        x.pass(1);
        Due.is("half of 3", x.of(0, 2), 1);
        x.come(0);
        x.call(0);
        x.pass(1);
        Due.is("then it stays", x.of(0, 2), 1);
    }

    static void terms_theCountInUseStaysIfFollowIs0() {
        Card x = called(16, 9);
        x.pass(1);
        Due.is("4 after 9", x.of(0, 2), 4);
        x.come(0);
        x.call(0);
        x.pass(1);
        Due.is("4 after 1", x.of(0, 2), 4);
    }

    static void terms_theCountInUseChangesOnlyWhenTheQueueLeavesTheRow() {
        Card x = called(9, 9);
        x.set(FOLLOW, 1);
        x.pass(1);
        Due.is("in the row", x.of(0, 2), 4);
        x.pass(1);
        Due.is("when it has left", x.of(0, 2), 8);
        Due.is("the count stays", x.of(0, 0), 4);
        Due.is("other queues stay", x.of(1, 2), 4);
    }

    static void terms_framesOfAllPollsSinceTheCallCount() {
        Card x = called(3, 9);
        x.set(FOLLOW, 1);
        x.pass(3);
        Due.is("three polls", x.of(0, 11), 9);
        Due.is("in the row", x.of(0, 2), 4);
        x.pass(1);
        Due.is("nine, and none in the last one", x.of(0, 2), 8);
    }

    static void terms_framesOfAnEarlierCallDoNotCount() {
        Card x = called(16, 5);
        x.set(FOLLOW, 1);
        x.pass(1);
        Due.is("five", x.of(0, 2), 4);
        x.come(0, 4);
        x.call(0);
        Due.is("none yet", x.of(0, 11), 0);
        x.pass(1);
        Due.is("four more, not nine", x.of(0, 2), 4);
    }

    static void terms_theCountInUseIsTheOneThatCalls() {
        Card x = new Card();
        x.set(FOLLOW, 1);
        x.come(0);
        x.call(0);
        x.pass(1);
        Due.is("half of 4", x.of(0, 2), 2);
        x.come(0);
        x.pass(1);
        Due.is("one frame", x.of(0, 4), 0);
        x.come(0);
        x.pass(1);
        Due.is("two frames", x.of(0, 4), 1);
    }

    // ---- cards

    private static Card fourHundred() {
        Card x = new Card();
        x.order("f0*99;f1*99;f2*99;f0*99;f1*4");
        return x;
    }

    private static Card atTheEndOfTime() {
        Card x = new Card();
        x.passTo(9999);
        x.come(0, 4);
        return x;
    }

    private static Card fullPad() {
        Card x = new Card();
        x.type("m0;".repeat(26) + "t1");
        return x;
    }

    /** Queue 0 has so many frames, in rings of so many. */
    private static Card filled(int ring, int frames) {
        Card x = new Card();
        x.set(RING, ring);
        x.come(0, frames);
        return x;
    }

    /** Queue 0 has these bounds, and so many frames that came at the time 0. */
    private static Card waiting(int count, int wait, int frames) {
        Card x = filled(32, frames);
        x.bounds(0, count, wait);
        return x;
    }

    /** Queue 0 is in the row with so many frames. */
    private static Card called(int budget, int frames) {
        Card x = filled(32, frames);
        x.set(BUDGET, budget);
        x.call(0);
        return x;
    }

    /** The count in use of a queue, after so many of its frames were taken by one call. */
    private static int inUseAfter(int count, int frames) {
        Card x = new Card();
        x.set(FOLLOW, 1);
        x.set(RING, 32);
        x.set(BUDGET, 16);
        x.bounds(1, count, 99);
        int came = Math.min(frames, 32);
        x.come(1, came);
        x.call(1);
        while (came < frames) {
            x.pass(1);
            // a poll has made room for sixteen more
            int more = Math.min(frames - came, 16);
            x.come(1, more);
            came += more;
        }
        x.pass(9);
        Due.is("all are taken", x.of(1, 7), frames);
        Due.is("by one call", x.of(1, 6), 1);
        Due.is("it has left the row", x.of(1, 4), 0);
        return x.of(1, 2);
    }
}
