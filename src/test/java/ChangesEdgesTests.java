/** The boundary cases of promises 1 to 7: a new object, and what changes it. */
public final class ChangesEdgesTests {
    private static final int NO_SUCH = -1, BAD_VALUE = -2, TOO_MANY = -4, NOT_POSSIBLE = -5, NONE = -6;
    private static final int RING = 0, BUDGET = 1, FOLLOW = 2, COST = 3;

    private ChangesEdgesTests() {
    }

    public static void main(String[] args) throws IllegalAccessException {
        Edges.run(ChangesEdgesTests.class);
    }

    // ---- promise 1: "Creates a card without frames, at the time 0"

    static void promise01_thereAreNoFrames() {
        Card x = new Card();
        x.countsAre(0, 0, 0, 0, 0, 0, 0);
        Due.is("frame 0", x.frame(0, 0), NO_SUCH);
        Due.is("takenIn(0)", x.takenIn(0), NO_SUCH);
        Due.is("would(99, 0)", x.would(99, 0), 0);
        for (int queue = 0; queue < 3; queue++) {
            x.queueIs(queue, 4, 10, 4, 0, 0, 0, 0, 0, 0, 0, NONE, 0, NONE);
        }
    }

    static void promise01_theTimeIs0() {
        Card x = new Card();
        Due.is("time", x.count(0), 0);
        x.come(0);
        Due.is("the first frame came at", x.frame(0, 1), 0);
    }

    static void promise01_theRowIsEmpty() {
        new Card().rowIs();
    }

    static void promise01_settingsHaveTheirFirstValues() {
        Card x = new Card();
        int[] first = {16, 4, 0, 6};
        for (int setting = 0; setting < 4; setting++) {
            Due.is("setting " + setting, x.count(7 + setting), first[setting]);
        }
    }

    static void promise01_nothingIsOnThePadInTheHistoryAndInTheSlots() {
        Card x = new Card();
        Due.is("length of the pad", x.count(11), 0);
        Due.is("changes", x.count(12), 0);
        Due.is("undo", x.undo(), NOT_POSSIBLE);
        Due.is("slot 0", x.restore(0), NOT_POSSIBLE);
        Due.is("slot 1", x.restore(1), NOT_POSSIBLE);
    }

    static void promise01_objectsAreApart() {
        Card x = Edges.rich();
        Card y = new Card();
        Due.holds("something is in x", x.count(1) > 0 && x.count(11) > 0 && x.count(12) > 0);
        Due.same("y", y.lookAtAll(), new Card().lookAtAll());
    }

    // ---- promise 2: "Returns the previous value; BAD_VALUE if there is no such setting, or ... out of its range"

    private static void settingIs(int setting, int least, int most, int first) {
        for (int value : Edges.beyond(least, most)) {
            Edges.refused("set(" + setting + ", " + value + ")", Edges::rich, x -> x.set(setting, value), BAD_VALUE);
        }
        Card x = new Card();
        Due.is("set(" + setting + ", " + least + ")", x.set(setting, least), first);
        Due.is("the setting then", x.count(7 + setting), least);
        Due.is("set(" + setting + ", " + most + ")", x.set(setting, most), least);
        Due.is("the setting then", x.count(7 + setting), most);
    }

    static void promise02_ringIs1To32() {
        settingIs(RING, 1, 32, 16);
    }

    static void promise02_budgetIs1To16() {
        settingIs(BUDGET, 1, 16, 4);
    }

    static void promise02_followIs0Or1() {
        settingIs(FOLLOW, 0, 1, 0);
    }

    static void promise02_costIs0To50() {
        settingIs(COST, 0, 50, 6);
    }

    static void promise02_settingsAre0To3() {
        for (int setting : Edges.beyond(0, 3)) {
            Edges.refused("set(" + setting + ", 1)", Edges::rich, x -> x.set(setting, 1), BAD_VALUE);
        }
        Card x = new Card();
        Due.is("the first one", x.set(0, 1), 16);
        Due.is("the last one", x.set(3, 1), 6);
    }

    static void promise02_thePreviousValueIsAnswered() {
        Card x = new Card();
        Due.is("a new one", x.set(COST, 0), 6);
        Due.is("the same one", x.set(COST, 0), 0);
        Due.is("after an undo", x.undo() + x.undo(), 1);
        Due.is("that is the first one again", x.set(COST, 50), 6);
    }

    static void promise02_otherSettingsStay() {
        Card x = new Card();
        x.set(RING, 7);
        x.countsAre(0, 0, 0, 0, 0, 0, 0, 7, 4, 0, 6);
        x.set(BUDGET, 7);
        x.countsAre(0, 0, 0, 0, 0, 0, 0, 7, 7, 0, 6);
        x.set(FOLLOW, 1);
        x.countsAre(0, 0, 0, 0, 0, 0, 0, 7, 7, 1, 6);
        x.set(COST, 7);
        x.countsAre(0, 0, 0, 0, 0, 0, 0, 7, 7, 1, 7);
    }

    static void promise02_framesInRingsStay() {
        Card x = new Card();
        x.set(RING, 32);
        x.come(0, 32);
        x.set(RING, 1);
        Due.is("in the ring", x.of(0, 3), 32);
        Due.is("dropped", x.count(4), 0);
        Due.is("the last one", x.frame(31, 2), 0);
        x.set(BUDGET, 16);
        Due.is("they are taken", x.pass(3), 32);
    }

    static void promise02_itIsOneChange() {
        Card x = new Card();
        x.set(COST, 6);
        Due.is("changes", x.count(12), 1);
    }

    // ---- promise 3: "NO_SUCH if there is no such queue; BAD_VALUE if count or wait is out of range"

    static void promise03_countIs1To32() {
        for (int count : Edges.beyond(1, 32)) {
            Edges.refused("bounds(1, " + count + ", 5)", Edges::rich, x -> x.bounds(1, count, 5), BAD_VALUE);
        }
        Card x = new Card();
        Due.is("the least", x.bounds(1, 1, 5), 4);
        x.queueIs(1, 1, 5, 1);
        Due.is("the most", x.bounds(1, 32, 5), 1);
        x.queueIs(1, 32, 5, 32);
    }

    static void promise03_waitIs1To99() {
        for (int wait : Edges.beyond(1, 99)) {
            Edges.refused("bounds(1, 5, " + wait + ")", Edges::rich, x -> x.bounds(1, 5, wait), BAD_VALUE);
        }
        Card x = new Card();
        Due.is("the least", x.bounds(1, 5, 1), 4);
        x.queueIs(1, 5, 1, 5);
        Due.is("the most", x.bounds(1, 5, 99), 5);
        x.queueIs(1, 5, 99, 5);
    }

    static void promise03_queuesAre0To2() {
        for (int queue : Edges.beyond(0, 2)) {
            Edges.refused("bounds(" + queue + ", 5, 5)", Edges::rich, x -> x.bounds(queue, 5, 5), NO_SUCH);
        }
        for (int queue = 0; queue < 3; queue++) {
            Card x = new Card();
            Due.is("queue " + queue, x.bounds(queue, 7, 8), 4);
            for (int other = 0; other < 3; other++) {
                if (other == queue) {
                    x.queueIs(other, 7, 8, 7);
                } else {
                    x.queueIs(other, 4, 10, 4);
                }
            }
        }
    }

    static void promise03_theCountInUseIsTheNewCount() {
        Card x = halved();
        Due.is("the count in use ahead of it", x.of(0, 2), 2);
        x.bounds(0, 9, 10);
        x.queueIs(0, 9, 10, 9);
        Card y = halved();
        y.bounds(0, 4, 10);
        Due.is("also by the same bounds", y.of(0, 2), 4);
    }

    static void promise03_thePreviousCountIsNotTheOneInUse() {
        Due.is("the previous count", halved().bounds(0, 9, 10), 4);
    }

    static void promise03_aQueueInTheRowGetsThemToo() {
        Card x = new Card();
        x.set(FOLLOW, 1);
        x.come(0, 4);
        x.call(0);
        x.pass(1);
        x.bounds(0, 9, 20);
        Due.is("the count in use", x.of(0, 2), 9);
        x.rowIs(0);
        Due.is("since it called", x.of(0, 11), 4);
        x.pass(1);
        Due.is("four are less than half of nine", x.of(0, 2), 4);
    }

    static void promise03_itIsOneChange() {
        Card x = new Card();
        x.bounds(0, 4, 10);
        Due.is("changes", x.count(12), 1);
    }

    // ---- promise 4: "Returns its number; BAD_VALUE if flow is out of range; TOO_MANY if 400 have come"

    static void promise04_flowIs0To99() {
        for (int flow : Edges.beyond(0, 99)) {
            Edges.refused("come(" + flow + ")", Edges::rich, x -> x.come(flow), BAD_VALUE);
        }
        Card x = new Card();
        Due.is("the least", x.come(0), 0);
        Due.is("the most", x.come(99), 1);
        x.frameIs(0, 0, 0, 0, 0);
        x.frameIs(1, 99, 0, 0, 0);
    }

    static void promise04_the400thFrameComesAndNoOther() {
        Card x = frames(399);
        Due.is("the 400th", x.come(1), 399);
        Due.is("its flow", x.frame(399, 0), 1);
        Edges.refused("the 401st", () -> frames(400), y -> y.come(1), TOO_MANY);
    }

    static void promise04_alsoOf400FramesThatWereTakenNoOtherComes() {
        Card x = new Card();
        x.set(BUDGET, 16);
        for (int n = 0; n < 25; n++) {
            x.order("f0*16;t20");
        }
        Due.is("taken", x.count(3), 400);
        Due.is("one more", x.come(0), TOO_MANY);
    }

    static void promise04_afterAnUndoOf400OneMoreComes() {
        Card x = frames(400);
        x.undo();
        x.come(0);
        Due.is("changes", x.count(12), 1);
        Card y = frames(399);
        y.come(1);
        y.undo();
        Due.is("399 came", y.count(1), 399);
        Due.is("the 400th again", y.come(2), 399);
        Due.is("its flow", y.frame(399, 0), 2);
    }

    static void promise04_theNumberOfADroppedFrame() {
        Card x = new Card();
        x.set(RING, 1);
        Due.is("in the ring", x.come(2), 0);
        Due.is("dropped", x.come(2), 1);
        Due.is("how it is", x.frame(1, 2), 2);
        Due.is("a change", x.count(12), 3);
    }

    static void promise04_itIsOneChange() {
        Card x = new Card();
        x.come(0);
        Due.is("changes", x.count(12), 1);
        Due.is("undo", x.undo(), 0);
        Due.is("no frame", x.count(1), 0);
    }

    // ---- promise 5: "Returns 1 if they are masked then, otherwise 0; NO_SUCH if there is no such queue"

    static void promise05_queuesAre0To2() {
        for (int queue : Edges.beyond(0, 2)) {
            Edges.refused("mask(" + queue + ")", Edges::rich, x -> x.mask(queue), NO_SUCH);
        }
        for (int queue = 0; queue < 3; queue++) {
            Card x = new Card();
            Due.is("mask(" + queue + ")", x.mask(queue), 1);
            Due.is("masked", x.count(6), 1 << queue);
        }
    }

    static void promise05_itAnswers1AndThen0() {
        Card x = new Card();
        Due.is("masked", x.mask(2), 1);
        Due.is("of 5", x.of(2, 5), 1);
        Due.is("not masked", x.mask(2), 0);
        Due.is("of 5", x.of(2, 5), 0);
        Due.is("masked again", x.mask(2), 1);
    }

    static void promise05_aQueueInTheRowStaysThere() {
        Card x = new Card();
        x.come(0, 6);
        x.call(0);
        Due.is("masked", x.mask(0), 1);
        x.rowIs(0);
        Due.is("all are taken", x.pass(2), 6);
        x.rowIs();
        x.come(0, 6);
        Due.is("it does not call then", x.pass(40), 0);
    }

    static void promise05_endingItCallsNothingByItself() {
        Card x = new Card();
        x.mask(0);
        x.come(0, 6);
        x.pass(40);
        x.mask(0);
        Due.is("not at once", x.of(0, 4), 0);
        x.pass(1);
        Due.is("in the next tick", x.of(0, 4), 1);
    }

    static void promise05_itIsOneChange() {
        Card x = new Card();
        x.mask(0);
        Due.is("changes", x.count(12), 1);
        x.mask(0);
        Due.is("the end of it too", x.count(12), 2);
    }

    // ---- promise 6: "NO_SUCH if there is no such queue; NOT_POSSIBLE if it is not idle, or has no frames"

    static void promise06_queuesAre0To2() {
        for (int queue : Edges.beyond(0, 2)) {
            Edges.refused("call(" + queue + ")", Edges::rich, x -> x.call(queue), NO_SUCH);
        }
        for (int queue = 0; queue < 3; queue++) {
            Card x = new Card();
            x.come(queue);
            Due.is("call(" + queue + ")", x.call(queue), 0);
            x.rowIs(queue);
        }
    }

    static void promise06_aQueueWithoutFramesDoesNotCall() {
        Edges.refused("call of an empty queue", ChangesEdgesTests::emptied, x -> x.call(1), NOT_POSSIBLE);
    }

    static void promise06_aQueueWhoseFramesWereAllTakenDoesNotCall() {
        Edges.refused("call of an emptied queue", ChangesEdgesTests::emptied, x -> x.call(0), NOT_POSSIBLE);
    }

    static void promise06_aQueueWithOneFrameCalls() {
        Card x = new Card();
        x.come(0);
        Due.is("one of four, at once", x.call(0), 0);
        Due.is("it is in the row", x.of(0, 4), 1);
        Due.is("calls", x.of(0, 6), 1);
        Due.is("polled in the next tick", x.pass(1), 1);
    }

    static void promise06_aQueueInTheRowDoesNotCall() {
        Edges.refused("call of a queue in the row", Edges::rich, x -> x.call(0), NOT_POSSIBLE);
    }

    static void promise06_anEmptyQueueInTheRowDoesNotCall() {
        Edges.refused("call of an empty queue in the row", ChangesEdgesTests::emptyInTheRow, x -> x.call(0),
                NOT_POSSIBLE);
    }

    static void promise06_maskedOrNot() {
        Card x = new Card();
        x.come(0);
        x.mask(0);
        Due.is("masked", x.call(0), 0);
        Due.is("it is masked yet", x.of(0, 5), 1);
        Due.is("polled", x.pass(1), 1);
    }

    static void promise06_itsPlaceInTheRow() {
        Card x = new Card();
        x.order("f0;f1;f2");
        Due.is("the first one", x.call(2), 0);
        Due.is("the second one", x.call(0), 1);
        Due.is("the last one", x.call(1), 2);
        x.rowIs(2, 0, 1);
    }

    static void promise06_itsPlaceWhenOthersHaveLeft() {
        Card x = new Card();
        x.order("f0;f1;f2");
        x.call(2);
        x.call(0);
        x.pass(1);
        Due.is("behind one", x.call(1), 1);
        x.pass(2);
        x.come(5);
        Due.is("alone", x.call(2), 0);
    }

    static void promise06_aQueueThatLeftTheRowCallsAgain() {
        Card x = emptied();
        x.come(0);
        Due.is("place", x.call(0), 0);
        Due.is("calls", x.of(0, 6), 2);
        Due.is("taken since", x.of(0, 11), 0);
    }

    static void promise06_itIsOneChange() {
        Card x = new Card();
        x.come(0);
        x.call(0);
        Due.is("changes", x.count(12), 2);
    }

    // ---- promise 7: "BAD_VALUE if ticks is out of range; NOT_POSSIBLE if the time would be above 9999"

    static void promise07_ticksAre1To99() {
        for (int ticks : Edges.beyond(1, 99)) {
            Edges.refused("pass(" + ticks + ")", Edges::rich, x -> x.pass(ticks), BAD_VALUE);
        }
        Card x = new Card();
        x.pass(1);
        Due.is("the least", x.count(0), 1);
        x.pass(99);
        Due.is("the most", x.count(0), 100);
    }

    static void promise07_theTimeIs9999AtMost() {
        Card x = at(9900);
        Due.is("99 ticks to 9999", x.pass(99), 1);
        Due.is("time", x.count(0), 9999);
        Edges.refused("99 ticks to 10000", () -> at(9901), y -> y.pass(99), NOT_POSSIBLE);
        Edges.refused("a tick to 10000", () -> at(9999), y -> y.pass(1), NOT_POSSIBLE);
    }

    static void promise07_oneTickTo9999() {
        Card x = at(9998);
        Due.is("two ticks", x.pass(2), NOT_POSSIBLE);
        Due.is("time", x.count(0), 9998);
        Due.is("a tick", x.pass(1), 0);
        Due.is("time", x.count(0), 9999);
    }

    static void promise07_at9999OtherChangesArePossible() {
        Card x = at(9999);
        Due.is("a call", x.call(0), 0);
        Due.is("a frame", x.come(0), 1);
        Due.is("it came at", x.frame(1, 1), 9999);
        Due.is("a tick", x.pass(1), NOT_POSSIBLE);
        Due.is("undo of these", x.undo() + x.undo(), 9);
    }

    static void promise07_theFramesTakenInTheseTicksAreAnswered() {
        Card x = new Card();
        x.come(0, 9);
        x.call(0);
        Due.is("none of them is told twice", x.pass(1), 4);
        Due.is("five more", x.pass(2), 5);
        Due.is("none", x.pass(99), 0);
        x.order("f0;f1;f2");
        Due.is("of all queues", x.pass(99), 3);
    }

    static void promise07_severalTicksAreAsManySingleOnes() {
        Card x = Edges.rich();
        Card y = Edges.rich();
        int taken = 0;
        for (int n = 0; n < 13; n++) {
            taken += y.pass(1);
        }
        Due.is("taken", x.pass(13), taken);
        Due.same("the card", x.look(), y.look());
    }

    static void promise07_itIsOneChange() {
        Card x = new Card();
        x.pass(99);
        Due.is("changes", x.count(12), 1);
        x.undo();
        Due.is("time", x.count(0), 0);
    }

    // ---- cards

    /** FOLLOW is 1, and the count in use of queue 0 is half of its count. */
    private static Card halved() {
        Card x = new Card();
        x.set(FOLLOW, 1);
        x.come(0);
        x.call(0);
        x.pass(1);
        return x;
    }

    private static Card emptied() {
        Card x = new Card();
        x.come(0);
        x.call(0);
        x.pass(1);
        return x;
    }

    /** Queue 0 gave just as many frames as the budget: it is in the row without frames. */
    private static Card emptyInTheRow() {
        Card x = new Card();
        x.come(0, 4);
        x.call(0);
        x.pass(1);
        Due.is("frames", x.of(0, 3), 0);
        x.rowIs(0);
        return x;
    }

    private static Card frames(int number) {
        Card x = new Card();
        x.order("f0*99;f1*99;f2*99;f0*99;f1*" + (number - 4 * 99));
        Due.is("frames that came", x.count(1), number);
        return x;
    }

    /** The time is this, and a frame has just come to queue 0. */
    private static Card at(int time) {
        Card x = new Card();
        x.passTo(time);
        x.come(0);
        return x;
    }
}
