import java.util.function.ToIntFunction;

/** The boundary cases of promises 20 to 22: undo, and saved states. */
public final class HistoryEdgesTests {
    private static final int BAD_VALUE = -2, NOT_POSSIBLE = -5, NONE = -6;
    private static final int RING = 0, COST = 3;

    private HistoryEdgesTests() {
    }

    public static void main(String[] args) throws IllegalAccessException {
        Edges.run(HistoryEdgesTests.class);
    }

    // ---- promise 20: "Returns how many changes can be undone then; NOT_POSSIBLE if there is none"

    static void promise20_anEmptyHistory() {
        Edges.refused("undo()", Card::new, x -> x.undo(), NOT_POSSIBLE);
    }

    static void promise20_aHistoryThatIsEmptyAgain() {
        Edges.refused("undo()", HistoryEdgesTests::undone, x -> x.undo(), NOT_POSSIBLE);
    }

    static void promise20_oneChange() {
        Card x = costs(1);
        Due.is("undo()", x.undo(), 0);
        Due.is("COST", x.count(10), 6);
        Due.is("one more", x.undo(), NOT_POSSIBLE);
    }

    static void promise20_sixChanges() {
        Card x = costs(6);
        Due.is("changes", x.count(12), 6);
        for (int left = 5; left >= 0; left--) {
            Due.is("undo()", x.undo(), left);
            Due.is("changes", x.count(12), left);
            Due.is("COST", x.count(10), left == 0 ? 6 : 10 + left);
        }
        Due.is("one more", x.undo(), NOT_POSSIBLE);
    }

    static void promise20_theSeventhChangeDropsTheOldestState() {
        Card x = costs(7);
        Due.is("changes", x.count(12), 6);
        for (int left = 5; left >= 0; left--) {
            Due.is("undo()", x.undo(), left);
            Due.is("COST", x.count(10), 11 + left);
        }
        Due.is("the seventh undo", x.undo(), NOT_POSSIBLE);
        Due.is("COST", x.count(10), 11);
    }

    static void promise20_manyChangesKeepTheLastSix() {
        Card x = costs(40);
        for (int left = 5; left >= 0; left--) {
            Due.is("undo()", x.undo(), left);
            Due.is("COST", x.count(10), 10 + 34 + left);
        }
        Due.is("one more", x.undo(), NOT_POSSIBLE);
    }

    static void promise20_anUndoIsNoChangeThatCanBeUndone() {
        Card x = costs(3);
        x.undo();
        Due.is("changes", x.count(12), 2);
        x.undo();
        Due.is("it goes on backwards", x.count(10), 11);
    }

    static void promise20_aChangeAfterAnUndoTakesItsPlace() {
        Card x = costs(6);
        x.undo();
        x.undo();
        x.set(COST, 50);
        Due.is("changes", x.count(12), 5);
        Due.is("undo()", x.undo(), 4);
        Due.is("COST", x.count(10), 14);
        Due.is("undo()", x.undo(), 3);
        Due.is("COST", x.count(10), 13);
    }

    // "each method that is a change, and returns no error, records the state before it (also if nothing is different
    // then)"

    private static void records(String call, ToIntFunction<Card> act) {
        Card x = begun();
        Due.is("changes", x.count(12), 3);
        Due.holds(call + " is no error", act.applyAsInt(x) >= 0);
        Due.is("changes after " + call, x.count(12), 4);
        Due.holds("something is different after " + call, !x.look().equals(begun().look()));
        Due.is("undo of " + call, x.undo(), 3);
        Due.same("the card as before " + call, x.lookAtAll(), begun().lookAtAll());
    }

    static void promise20_setRecords() {
        records("set", x -> x.set(RING, 32));
    }

    static void promise20_boundsRecords() {
        records("bounds", x -> x.bounds(0, 32, 99));
    }

    static void promise20_comeRecords() {
        records("come", x -> x.come(99));
    }

    static void promise20_maskRecords() {
        records("mask", x -> x.mask(0));
    }

    static void promise20_callRecords() {
        records("call", x -> x.call(2));
    }

    static void promise20_passRecords() {
        records("pass", x -> x.pass(99));
    }

    static void promise20_restoreRecords() {
        records("restore", x -> x.restore(0));
    }

    static void promise20_carryOutRecords() {
        records("carryOut", x -> x.order("f2*5;t9;q1=9,9;m0"));
    }

    static void promise20_aChangeByWhichNothingIsDifferentRecords() {
        Card x = new Card();
        x.set(COST, 6);
        Due.is("set", x.count(12), 1);
        x.bounds(0, 4, 10);
        Due.is("bounds", x.count(12), 2);
        x.save(0);
        x.restore(0);
        Due.is("restore", x.count(12), 3);
        x.order("t0");
        Due.is("carryOut", x.count(12), 4);
        for (int left = 3; left >= 0; left--) {
            Due.is("undo()", x.undo(), left);
        }
    }

    static void promise20_aCallThatReturnsAnErrorRecordsNothing() {
        Card x = costs(6);
        Due.is("set", x.set(COST, 51), BAD_VALUE);
        x.set(4, 0);
        x.bounds(3, 1, 1);
        x.bounds(0, 33, 1);
        x.come(100);
        x.mask(3);
        x.call(3);
        x.call(0);
        x.pass(100);
        x.carryOut();
        x.restore(0);
        x.restore(2);
        x.save(2);
        for (int left = 5; left >= 0; left--) {
            Due.is("undo()", x.undo(), left);
            Due.is("COST", x.count(10), left == 0 ? 6 : 10 + left);
        }
        x.undo();
        Due.is("an undo that is not possible", x.count(12), 0);
    }

    static void promise20_aCallThatIsNoChangeRecordsNothing() {
        Card x = costs(2);
        x.come(0);
        x.put(Card.code("t1"));
        x.fault();
        x.wipe();
        x.save(0);
        x.save(1);
        x.why(0);
        x.takenIn(0);
        x.would(9, 0);
        x.bestCount(0, 9, 0);
        x.of(0, 0);
        x.frame(0, 0);
        x.row(0);
        Due.is("changes", x.count(12), 3);
    }

    // "everything except the pad, the slots and the history is as it was before it"

    static void promise20_thePadStays() {
        Card x = new Card();
        x.put(Card.code("t5"));
        x.come(0);
        x.put(Card.code(";t4"));
        x.undo();
        Due.is("length", x.count(11), 5);
        Due.is("its orders", x.carryOut(), 2);
        Due.is("time", x.count(0), 9);
    }

    static void promise20_theSlotsStay() {
        Card x = new Card();
        x.save(0);
        x.come(0);
        x.save(0);
        x.save(1);
        x.undo();
        Due.is("no frame", x.count(1), 0);
        Due.is("slot 0", x.restore(0), 1);
        x.undo();
        Due.is("slot 1", x.restore(1), 1);
    }

    static void promise20_theRowAndTheTakenFramesAreAsBefore() {
        Card x = Edges.rich();
        x.wipe();
        Card y = Edges.rich();
        y.wipe();
        x.pass(30);
        Due.holds("they were different", !x.look().equals(y.look()));
        x.undo();
        Due.same("the card", x.look(), y.look());
        Due.is("they go on as before", x.pass(30), y.pass(30));
        Due.same("the card then", x.look(), y.look());
    }

    static void promise20_theFramesTakenSinceACallAreAsBefore() {
        Card x = new Card();
        x.come(0, 5);
        x.pass(2);
        Due.is("four are taken", x.of(0, 11), 4);
        x.pass(1);
        Due.is("it has left the row", x.of(0, 11), 0);
        x.undo();
        Due.is("four again", x.of(0, 11), 4);
        x.rowIs(0);
    }

    static void promise20_theWaitsOfTakenFramesAreAsBefore() {
        Card x = new Card();
        x.come(0);
        x.call(0);
        x.pass(1);
        x.save(0);
        x.undo();
        x.undo();
        x.pass(12);
        Due.is("eleven ticks", x.frame(0, 3), 11);
        x.restore(0);
        Due.is("none, as it was called by hand", x.frame(0, 3), 0);
        x.undo();
        Due.is("eleven again", x.frame(0, 3), 11);
    }

    static void promise20_theNumbersOfFramesAreGivenAgain() {
        Card x = new Card();
        x.come(5);
        x.pass(1);
        x.come(7);
        x.undo();
        Due.is("no such frame", x.frame(1, 0), -1);
        x.undo();
        Due.is("the number again", x.come(8), 1);
        x.frameIs(1, 8, 0, 0, 0);
    }

    // "An order of a text records nothing by itself"

    static void promise20_anOrderOfATextRecordsNothing() {
        Card x = costs(2);
        x.order("m0;t1;f0*9;q0=1,1;m1;t0");
        Due.is("changes", x.count(12), 3);
        Due.is("undo()", x.undo(), 2);
        Due.is("frames", x.count(1), 0);
        Due.is("undo()", x.undo(), 1);
        Due.is("COST", x.count(10), 11);
    }

    // ---- promise 21: "Returns how many frames have come; BAD_VALUE if there is no such slot"

    static void promise21_slotsAre0And1() {
        for (int slot : Edges.beyond(0, 1)) {
            Edges.refused("save(" + slot + ")", Edges::rich, x -> x.save(slot), BAD_VALUE);
        }
        Card x = new Card();
        x.come(0);
        Due.is("slot 0", x.save(0), 1);
        x.come(0);
        Due.is("slot 1", x.save(1), 2);
        Due.is("slot 0 is another one", x.restore(0), 1);
        Due.is("slot 1", x.restore(1), 2);
    }

    static void promise21_noFramesAnd400Frames() {
        Card x = new Card();
        Due.is("no frames", x.save(0), 0);
        x.order("f0*99;f1*99;f2*99;f0*99;f1*4");
        Due.is("400, also those that were dropped", x.save(1), 400);
        Due.is("no frames", x.restore(0), 0);
        Due.is("there is none", x.frame(0, 0), -1);
        Due.is("400", x.restore(1), 400);
        x.frameIs(399, 1, 0, 2, NONE);
    }

    static void promise21_itOverwritesWhatWasSaved() {
        Card x = new Card();
        x.save(0);
        x.come(0);
        x.save(0);
        x.come(0);
        Due.is("the later one", x.restore(0), 1);
    }

    static void promise21_aRefusedSaveKeepsWhatWasSaved() {
        Card x = new Card();
        x.come(0);
        x.save(0);
        x.come(0);
        x.save(2);
        x.save(-1);
        Due.is("slot 0", x.restore(0), 1);
        Due.is("slot 1", x.restore(1), NOT_POSSIBLE);
    }

    static void promise21_thePadTheHistoryAndTheSlotsAreNotSaved() {
        Card x = costs(2);
        x.put(Card.code("t5"));
        x.save(0);
        x.wipe();
        x.put(Card.code("t77"));
        x.save(1);
        x.set(COST, 50);
        x.save(1);
        x.restore(0);
        Due.is("length of the pad", x.count(11), 3);
        Due.is("changes", x.count(12), 4);
        Due.is("COST", x.count(10), 12);
        x.restore(1);
        Due.is("COST of slot 1", x.count(10), 50);
    }

    static void promise21_itIsNoChange() {
        Card x = new Card();
        x.save(0);
        Due.is("changes", x.count(12), 0);
        Due.is("undo", x.undo(), NOT_POSSIBLE);
        Due.is("it is saved", x.restore(0), 0);
    }

    static void promise21_whatIsSavedDoesNotFollowLaterChanges() {
        Card x = Card.busy();
        Card y = Card.busy();
        x.save(0);
        x.pass(30);
        x.set(RING, 9);
        x.order("f0*9;f1*9;m0;q1=1,1");
        x.restore(0);
        Due.same("as saved", x.look(), y.look());
    }

    // ---- promise 22: "BAD_VALUE if there is no such slot; NOT_POSSIBLE if nothing was saved in it"

    static void promise22_slotsAre0And1() {
        for (int slot : Edges.beyond(0, 1)) {
            Edges.refused("restore(" + slot + ")", Edges::rich, x -> x.restore(slot), BAD_VALUE);
        }
        Card x = Edges.rich();
        Due.is("slot 0", x.restore(0), 12);
        Due.is("COST", x.count(10), 6);
        Due.is("slot 1", x.restore(1), 12);
        Due.is("COST", x.count(10), 9);
    }

    static void promise22_aSlotInWhichNothingWasSaved() {
        for (int slot = 0; slot < 2; slot++) {
            int empty = slot;
            Edges.refused("restore(" + slot + ")", () -> savedIn(1 - empty), x -> x.restore(empty), NOT_POSSIBLE);
        }
        Edges.refused("restore(0) of a new card", Card::new, x -> x.restore(0), NOT_POSSIBLE);
    }

    static void promise22_theFramesThatHaveComeThen() {
        Card x = new Card();
        x.save(0);
        x.come(0, 5);
        Due.is("none", x.restore(0), 0);
        Due.is("none are there", x.count(1), 0);
    }

    static void promise22_theSlotKeepsIt() {
        Card x = savedIn(1);
        for (int n = 0; n < 3; n++) {
            x.order("f0*5;t30;m1");
            Due.is("restore(1)", x.restore(1), 2);
            x.countsAre(3, 2, 2, 0, 0, 0, 1);
        }
    }

    static void promise22_itIsAChangeThatCanBeUndone() {
        Card x = savedIn(0);
        Card y = savedIn(0);
        x.pass(30);
        y.pass(30);
        int changes = x.count(12);
        x.restore(0);
        Due.is("changes", x.count(12), changes + 1);
        Due.is("undo()", x.undo(), changes);
        Due.same("as before", x.look(), y.look());
        Due.is("the slot keeps it all the same", x.restore(0), 2);
    }

    static void promise22_itDropsTheOldestOfAFullHistory() {
        Card x = new Card();
        x.save(0);
        for (int cost = 10; cost < 16; cost++) {
            x.set(COST, cost);
        }
        x.restore(0);
        Due.is("changes", x.count(12), 6);
        for (int left = 5; left >= 0; left--) {
            x.undo();
        }
        Due.is("COST", x.count(10), 10);
    }

    static void promise22_thePadAndTheHistoryStay() {
        Card x = savedIn(0);
        x.put(Card.code("t5"));
        x.restore(0);
        Due.is("length of the pad", x.count(11), 2);
        x.undo();
        x.undo();
        Due.is("the change before the restore is undone", x.count(0), 0);
    }

    static void promise22_everythingElseIsRestored() {
        Card x = Edges.rich();
        Card y = Card.busy();
        x.order(";f2*9;t60;q2=1,1");
        x.restore(0);
        Due.same("the card", x.look(), y.look());
        Due.is("it goes on as it would have", x.pass(40), y.pass(40));
        Due.same("the card then", x.look(), y.look());
        Due.is("longest wait of 1", x.of(1, 10), 3);
        Due.is("none of 2 was taken", x.of(2, 10), NONE);
    }

    static void promise22_theWaitsOfTakenFramesAreRestored() {
        Card x = new Card();
        x.come(0);
        x.save(1);
        x.pass(12);
        x.save(0);
        x.restore(1);
        x.call(0);
        x.pass(1);
        Due.is("none, as it was called by hand", x.frame(0, 3), 0);
        x.restore(0);
        Due.is("eleven, as saved", x.frame(0, 3), 11);
    }

    // ---- cards

    /** Frames were taken, wait and were dropped; slot 0 holds an earlier state; three changes were made. */
    private static Card begun() {
        Card x = new Card();
        x.order("q0=2,20;f0*3;f1*17;t2;f2;m2");
        x.save(0);
        x.order("t1;f0;m1");
        x.set(COST, 7);
        return x;
    }

    /** COST was set so many times: to 11, 12, and so on; it was 6. */
    private static Card costs(int changes) {
        Card x = new Card();
        for (int n = 1; n <= changes; n++) {
            x.set(COST, 10 + n);
        }
        return x;
    }

    private static Card undone() {
        Card x = costs(8);
        x.come(0);
        for (int n = 0; n < 6; n++) {
            x.undo();
        }
        return x;
    }

    /** Two frames came, queue 0 is masked, and three ticks passed: this was saved in a slot. */
    private static Card savedIn(int slot) {
        Card x = new Card();
        x.order("f0*2;m0;t3");
        x.save(slot);
        return x;
    }
}
