/** The boundary cases of the texts, promises 16 to 19. */
public final class TextsEdgesTests {
    private static final int BAD_VALUE = -2, BAD_TEXT = -3, TOO_MANY = -4, NONE = -6;
    private static final int COST = 3;

    private TextsEdgesTests() {
    }

    public static void main(String[] args) throws IllegalAccessException {
        Edges.run(TextsEdgesTests.class);
    }

    // ---- promise 16: "1 to 8 characters", "BAD_VALUE if there is no character, a code is not 33 to 126, or a bit
    // above 8 bits that are 0 is not 0; TOO_MANY if the pad would be longer than 80"

    private static void putRefused(String what, long characters) {
        Edges.refused("put of " + what, Edges::rich, x -> x.put(characters), BAD_VALUE);
    }

    static void promise16_noCharacterIsRefused() {
        putRefused("no character", 0);
    }

    static void promise16_oneCharacter() {
        Card x = new Card();
        Due.is("length", x.put('m'), 1);
        Due.is("it is there", x.fault(), 1);
    }

    static void promise16_eightCharacters() {
        Card x = new Card();
        Due.is("length", x.put(Card.code("m0;m1;m2")), 8);
        Due.is("all are there", x.carryOut(), 3);
        Due.is("masked", x.count(6), 7);
    }

    static void promise16_theLowestBitsAreTheLastCharacter() {
        Card x = new Card();
        x.put((long) 't' << 8 | '9');
        Due.is("t9, not 9t", x.fault(), NONE);
        x.carryOut();
        Due.is("time", x.count(0), 9);
        Card y = new Card();
        y.put((long) '9' << 8 | 't');
        Due.is("9t, not t9", y.fault(), 0);
    }

    static void promise16_theFirstCodeIs33() {
        putRefused("32", 32);
        putRefused("1", 1);
        Due.is("33", new Card().put(33), 1);
    }

    static void promise16_theLastCodeIs126() {
        putRefused("127", 127);
        putRefused("128", 128);
        putRefused("255", 255);
        Due.is("126", new Card().put(126), 1);
    }

    static void promise16_eachOfTheEightCodesIsLookedAt() {
        long eight = Card.code("aaaaaaaa");
        for (int place = 0; place < 8; place++) {
            long others = eight & ~(255L << 8 * place);
            for (long code : new long[] {32, 127, 255}) {
                putRefused(code + " at " + place, others | code << 8 * place);
            }
            Due.is("33 at " + place, new Card().put(others | 33L << 8 * place), 8);
            Due.is("126 at " + place, new Card().put(others | 126L << 8 * place), 8);
        }
    }

    static void promise16_eightBitsThatAre0EndTheText() {
        for (int characters = 1; characters <= 8; characters++) {
            Due.is(characters + " characters", new Card().put(Card.code("f".repeat(characters))), characters);
        }
    }

    static void promise16_nothingStandsAboveEightBitsThatAre0() {
        for (int place = 0; place < 7; place++) {
            putRefused("a 0 at " + place, Card.code("aaaaaaaa") & ~(255L << 8 * place));
            long below = place == 0 ? 0 : Card.code("a".repeat(place));
            putRefused("a bit far above a 0 at " + place, below | 1L << 63);
            putRefused("a bit just above a 0 at " + place, below | 1L << 8 * (place + 1));
        }
    }

    static void promise16_aNegativeNumberIsRefused() {
        putRefused("-1", -1);
        putRefused("the least number", Long.MIN_VALUE);
        putRefused("128 as the first of eight", Card.code("aaaaaaaa") & ~(255L << 56) | 128L << 56);
    }

    static void promise16_aPadOf80IsTheLongest() {
        Card x = new Card();
        x.type("f".repeat(79));
        Due.is("two more", x.put(Card.code("ff")), TOO_MANY);
        Due.is("length", x.count(11), 79);
        Due.is("one more", x.put('f'), 80);
        Due.is("one more than 80", x.put('f'), TOO_MANY);
        Due.is("length", x.count(11), 80);
    }

    static void promise16_eightCharactersTo80AndTo81() {
        Card x = new Card();
        x.type("f".repeat(72));
        Due.is("to 80", x.put(Card.code("ffffffff")), 80);
        Card y = new Card();
        y.type("f".repeat(73));
        Due.is("to 81", y.put(Card.code("ffffffff")), TOO_MANY);
        Due.is("none of them is put", y.count(11), 73);
        Due.is("seven", y.put(Card.code("fffffff")), 80);
    }

    static void promise16_aPadThatWouldBeTooLongChangesNothing() {
        Edges.refused("put of one more", () -> padOf(";m0".repeat(26).substring(1) + ";m1"), x -> x.put('1'), TOO_MANY);
        Edges.refused("put of eight", () -> padOf("m1;".repeat(25)), x -> x.put(Card.code("m0;m0;m0")), TOO_MANY);
    }

    static void promise16_itIsNoChange() {
        Card x = new Card();
        x.put('f');
        Due.is("changes", x.count(12), 0);
    }

    // ---- promise 17: "Empties the pad, and returns the length that it had"

    static void promise17_anEmptyPad() {
        Edges.keeps("wipe()", Card::new, x -> x.wipe(), 0);
    }

    static void promise17_aPadOf80() {
        Card x = new Card();
        x.type("f".repeat(80));
        Due.is("wipe()", x.wipe(), 80);
        Due.is("length", x.count(11), 0);
        Due.is("again", x.wipe(), 0);
        Due.is("there is room again", x.put(Card.code("ffffffff")), 8);
    }

    static void promise17_nothingOfTheOldTextIsLeft() {
        Card x = new Card();
        x.type("t5;t6;t7");
        x.wipe();
        x.type("t9");
        Due.is("orders", x.carryOut(), 1);
        Due.is("time", x.count(0), 9);
    }

    static void promise17_itIsNoChange() {
        Card x = Edges.rich();
        Card y = Edges.rich();
        x.wipe();
        x.type("f1;t2;m0");
        Due.same("the card", x.lookAtAll(), y.lookAtAll());
    }

    // ---- promise 18: "the index of the first character that cannot stand at its place"

    private static void fault(String text, int want) {
        Card x = padOf(text);
        Due.is("fault of " + text, x.fault(), want);
        Due.is("it is asked again", x.fault(), want);
        if (want == NONE) {
            Due.holds("carryOut of " + text, x.carryOut() >= 0);
        } else {
            Due.is("carryOut of " + text, x.carryOut(), BAD_TEXT);
        }
    }

    private static void good(String... texts) {
        for (String text : texts) {
            fault(text, NONE);
        }
    }

    /** These texts end too early: the fault is their length. */
    private static void early(String... texts) {
        for (String text : texts) {
            fault(text, text.length());
        }
    }

    /** The last character of each text is one that cannot stand there; also with others behind it. */
    private static void wrongAtItsEnd(String... texts) {
        for (String text : texts) {
            fault(text, text.length() - 1);
            fault(text + "0;t1", text.length() - 1);
        }
    }

    static void promise18_anEmptyTextHasTheFault0() {
        fault("", 0);
        Card x = padOf("f1");
        x.wipe();
        Due.is("when it was wiped", x.fault(), 0);
    }

    static void promise18_aTextWithoutAFaultAnswersNone() {
        good("f0", "t0", "q0=0,0", "m0", "f0*0", "f7;f7*2;t3;q1=2,3;m2");
    }

    static void promise18_aTextThatEndsTooEarly() {
        early("f", "t", "q", "m", "f1*", "f99*", "q1", "q1=", "q1=1", "q1=10", "q1=1,", "q1=10,");
    }

    static void promise18_aTextThatEndsTooEarlyBehindASemicolon() {
        early("f1;", "t1;", "q1=1,1;", "m1;", "f1*1;", "f1;t", "m1;m1;");
    }

    static void promise18_eachPlaceAtWhichATextMayEnd() {
        good("f1", "f10", "f1*1", "f1*10", "t1", "t10", "q1=1,1", "q1=1,10", "q1=10,1", "m1");
    }

    static void promise18_theDigitByWhichANumberIsAbove99() {
        wrongAtItsEnd("f100", "f999", "f1*100", "f1*999", "t100", "t999", "q1=100", "q1=999", "q1=1,100", "q1=1,999");
        good("f99", "f1*99", "t99", "q1=99,99", "f10*10", "t10", "q1=10,10");
    }

    static void promise18_aLeadingZero() {
        wrongAtItsEnd("f00", "f01", "f09", "f1*00", "f1*01", "t00", "t05", "q1=00", "q1=01", "q1=1,00", "q1=1,09");
        good("f0", "f10", "f1*0", "f1*10", "t0", "t10", "q1=0,0", "q1=10,10");
    }

    static void promise18_aDigitIs0To9() {
        good("q0=1,1", "q9=1,1", "m0", "m9", "t0", "t9", "t90", "t19");
        wrongAtItsEnd("q/", "q:", "m/", "m:", "t/", "t:", "t1/", "t1:", "f/", "f:", "f1*/", "q1=/", "q1=1,:");
    }

    static void promise18_aQueueIsOneDigit() {
        wrongAtItsEnd("m10", "m00", "q10", "q00");
    }

    static void promise18_theFirstCharacterOfAnOrder() {
        for (char sign = 33; sign <= 126; sign++) {
            boolean order = sign == 'f' || sign == 't' || sign == 'q' || sign == 'm';
            fault(sign + "", order ? 1 : 0);
            fault("m1;" + sign, order ? 4 : 3);
        }
    }

    static void promise18_whatStandsBehindAnOrder() {
        for (char sign = 33; sign <= 126; sign++) {
            boolean digit = sign >= '0' && sign <= '9';
            fault("m1" + sign, sign == ';' ? 3 : 2);
            fault("t1" + sign, sign == ';' ? 3 : digit ? NONE : 2);
            fault("f1" + sign, sign == ';' || sign == '*' ? 3 : digit ? NONE : 2);
            fault("f1*1" + sign, sign == ';' ? 5 : digit ? NONE : 4);
            fault("q1=1,1" + sign, sign == ';' ? 7 : digit ? NONE : 6);
        }
    }

    static void promise18_whatStandsInsideBounds() {
        for (char sign = 33; sign <= 126; sign++) {
            boolean digit = sign >= '0' && sign <= '9';
            fault("q1" + sign, sign == '=' ? 3 : 2);
            fault("q1=" + sign, digit ? 4 : 3);
            fault("q1=12" + sign, sign == ',' ? 6 : 5);
            fault("q1=1," + sign, digit ? NONE : 5);
        }
    }

    static void promise18_semicolonsStandBetweenOrdersAlone() {
        fault(";", 0);
        fault(";f1", 0);
        fault("f1;;f1", 3);
        fault("f;1", 1);
        fault("f1;t1;", 6);
    }

    static void promise18_theFirstFaultOfSeveral() {
        fault("f1;t2;z;f", 6);
        fault("m10;x", 2);
        fault("q1;f", 2);
    }

    static void promise18_aTextOf80() {
        fault("m0;".repeat(26) + "m0", NONE);
        fault("m0;".repeat(26) + "m;", 79);
        fault("m0;".repeat(26) + "mm", 79);
        fault("m0;".repeat(26) + "q1", 80);
        fault("x" + "m".repeat(79), 0);
        fault("m0;".repeat(24) + "q1=99,99", NONE);
        fault("m0;".repeat(24) + "q1=10,1x", 79);
        fault("m0;".repeat(26) + "f", 79);
    }

    static void promise18_ordersThatReturnErrorsAreNoFaults() {
        good("t0", "m3", "m9", "q3=1,1", "q9=1,1", "q0=0,1", "q0=33,1", "q0=1,0");
    }

    static void promise18_nothingIsChangedByIt() {
        Edges.keeps("fault()", Edges::rich, x -> x.fault(), NONE);
        Edges.keeps("fault() of a text that ends too early", () -> padOf("f1;"), x -> x.fault(), 3);
    }

    // ---- promise 19: "BAD_TEXT if the pad has a fault (then it stays)"

    static void promise19_anEmptyPadIsABadText() {
        Edges.refused("carryOut()", Card::new, x -> x.carryOut(), BAD_TEXT);
    }

    static void promise19_aPadWithAFaultStays() {
        for (String text : new String[] {"f1;", "f1;x", "x;f1", "t1;t100", "m0;m1;m"}) {
            Edges.refused("carryOut of " + text, () -> padOf(text), x -> x.carryOut(), BAD_TEXT);
        }
        Card x = padOf("t5;t");
        x.carryOut();
        x.type("4");
        Due.is("orders, when it is mended", x.carryOut(), 2);
        Due.is("time", x.count(0), 9);
    }

    static void promise19_oneOrder() {
        Card x = padOf("t1");
        Due.is("orders", x.carryOut(), 1);
        Due.is("length of the pad", x.count(11), 0);
        Due.is("changes", x.count(12), 1);
    }

    static void promise19_ordersAreCarriedOutOneAfterTheOther() {
        Card x = padOf("f1;t3;f2;m1;m2;m1;q1=3,5;q1=6,7");
        Due.is("orders", x.carryOut(), 8);
        x.frameIs(0, 1, 0, 0, 3);
        x.frameIs(1, 2, 3, 0, 0);
        Due.is("masked", x.count(6), 4);
        x.queueIs(1, 6, 7, 6);
    }

    // "f": "come() of a frame of a flow, so many times (once without), each an order of its own"

    static void promise19_framesNoTimesOnceAndOften() {
        int[] frames = {0, 1, 2, 99};
        for (int times : frames) {
            Card x = new Card();
            Due.is("orders of f5*" + times, x.order("f5*" + times), times);
            Due.is("frames", x.count(1), times);
        }
        Card x = new Card();
        Due.is("orders of f5", x.order("f5"), 1);
        Due.is("frames", x.count(1), 1);
    }

    static void promise19_noTimesIsNoErrorAndTheNextOrderIsCarriedOut() {
        Card x = new Card();
        Due.is("orders", x.order("f5*0;t4;f5*0;m1"), 2);
        Due.is("time", x.count(0), 4);
        Due.is("masked", x.count(6), 2);
    }

    static void promise19_flowsAre0To99() {
        Card x = new Card();
        Due.is("orders", x.order("f0;f99"), 2);
        x.frameIs(0, 0, 0, 0, 0);
        x.frameIs(1, 99, 0, 0, 0);
    }

    // "up to the first one that returns an error"

    /** An order that returns an error, with one ahead of it and one behind it. */
    private static void stops(String order) {
        ordersAre(order, 1, 1);
    }

    private static void goesOn(String order) {
        ordersAre(order, 3, 1 + 5);
    }

    private static void ordersAre(String order, int orders, int time) {
        Card x = new Card();
        String text = "t1;" + order + ";t5";
        Due.is("orders of " + text, x.order(text), orders);
        Due.is("time after " + text, x.count(0), time);
        Due.is("length of the pad", x.count(11), 0);
        Due.is("changes", x.count(12), 1);
        x.undo();
        Due.is("undo of all", x.count(0), 0);
    }

    static void promise19_anOrderOfNoTicksStops() {
        stops("t0");
        Due.is("a tick", new Card().order("t1;t1"), 2);
        Due.is("99 ticks", new Card().order("t99;t1"), 2);
    }

    static void promise19_anOrderOfNoSuchQueueStops() {
        goesOn("m0");
        goesOn("m2");
        stops("m3");
        stops("m9");
        goesOn("q0=1,1");
        goesOn("q2=1,1");
        stops("q3=1,1");
        stops("q9=1,1");
    }

    static void promise19_anOrderOfBadBoundsStops() {
        goesOn("q0=1,1");
        goesOn("q0=32,99");
        stops("q0=0,1");
        stops("q0=33,1");
        stops("q0=1,0");
    }

    static void promise19_theFrameBeyond400Stops() {
        Card x = new Card();
        x.order("f0*99;f1*99;f2*99;f0*99");
        Due.is("four of them come", x.order("f1*9;t1"), 4);
        Due.is("frames", x.count(1), 400);
        Due.is("time", x.count(0), 0);
        Due.is("none comes", x.order("f1;t1"), 0);
        Due.is("no times is no error", x.order("f1*0;t1"), 1);
        Due.is("time", x.count(0), 1);
    }

    static void promise19_theTickBeyond9999Stops() {
        Card x = new Card();
        x.passTo(9990);
        Due.is("ten ticks", x.order("t10;m0"), 0);
        Due.is("time", x.count(0), 9990);
        Due.is("nine ticks", x.order("t9;m0"), 2);
        Due.is("time", x.count(0), 9999);
        Due.is("one more", x.order("m0;t1;m0"), 1);
        Due.is("masked", x.count(6), 0);
    }

    static void promise19_theOrderThatReturnsAnErrorChangesNothing() {
        Card x = Edges.rich();
        Card y = Edges.rich();
        x.wipe();
        y.wipe();
        Due.is("with an error", x.order("m1;q1=33,5;m0"), 1);
        Due.is("without", y.order("m1"), 1);
        Due.same("the card", x.lookAtAll(), y.lookAtAll());
    }

    // "This is a change (one, with all of them; also if none is carried out)"

    static void promise19_allOrdersAreOneChange() {
        Card x = new Card();
        x.order("t1;t2;f1*9;m0;q0=9,9");
        Due.is("changes", x.count(12), 1);
        Due.is("undo", x.undo(), 0);
        Due.same("as new", x.lookAtAll(), new Card().lookAtAll());
    }

    static void promise19_noneCarriedOutIsOneChangeToo() {
        for (String text : new String[] {"f5*0", "t0", "m3;t1", "q0=0,0"}) {
            Card x = new Card();
            x.set(COST, 1);
            Due.is("orders of " + text, x.order(text), 0);
            Due.is("length of the pad", x.count(11), 0);
            Due.is("changes", x.count(12), 2);
            Due.is("undo", x.undo(), 1);
            Due.is("COST", x.count(10), 1);
        }
    }

    static void promise19_noneCarriedOutDropsTheOldestOfAFullHistory() {
        Card x = new Card();
        for (int cost = 10; cost < 16; cost++) {
            x.set(COST, cost);
        }
        x.order("t0");
        Due.is("changes", x.count(12), 6);
        for (int n = 5; n >= 0; n--) {
            x.undo();
        }
        Due.is("the state before set(COST, 10) was dropped", x.count(10), 10);
    }

    static void promise19_aBadTextRecordsNothing() {
        Card x = new Card();
        x.set(COST, 1);
        x.order("t");
        Due.is("changes", x.count(12), 1);
        Due.is("undo", x.undo(), 0);
        Due.is("COST", x.count(10), 6);
    }

    static void promise19_thePadIsEmptiedAlsoByAnUndo() {
        Card x = padOf("t1;t2");
        x.carryOut();
        x.undo();
        Due.is("length of the pad", x.count(11), 0);
        Due.is("carryOut()", x.carryOut(), BAD_TEXT);
    }

    static void promise19_aTextOf80() {
        Card x = padOf("m0;".repeat(26) + "m1");
        Due.is("orders", x.carryOut(), 27);
        Due.is("masked", x.count(6), 2);
        Due.is("length of the pad", x.count(11), 0);
    }

    // ---- cards

    private static Card padOf(String text) {
        Card x = new Card();
        x.type(text);
        Due.is("length of the pad", x.count(11), text.length());
        return x;
    }
}
