/**
 * A CoalescedCalls of a test, with what tests do to it again and again. Its calls are counted: what an object answers
 * after its 512th call is free, so no test may rest on that.
 */
final class Card {
    private static final int MOST_CALLS = 512;
    private static final int FRAMES_LOOKED_AT = 12;

    private final CoalescedCalls real = new CoalescedCalls();
    private int calls = 0;

    private CoalescedCalls next() {
        calls++;
        if (calls > MOST_CALLS) {
            Due.is("a call of one object", calls, MOST_CALLS);
        }
        return real;
    }

    // ---- the face

    int set(int setting, int value) {
        return next().set(setting, value);
    }

    int bounds(int queue, int count, int wait) {
        return next().bounds(queue, count, wait);
    }

    int come(int flow) {
        return next().come(flow);
    }

    int mask(int queue) {
        return next().mask(queue);
    }

    int call(int queue) {
        return next().call(queue);
    }

    int pass(int ticks) {
        return next().pass(ticks);
    }

    int of(int queue, int what) {
        return next().of(queue, what);
    }

    int frame(int frame, int what) {
        return next().frame(frame, what);
    }

    int row(int rank) {
        return next().row(rank);
    }

    int count(int what) {
        return next().count(what);
    }

    int why(int queue) {
        return next().why(queue);
    }

    int takenIn(int frame) {
        return next().takenIn(frame);
    }

    int would(int ticks, int what) {
        return next().would(ticks, what);
    }

    int bestCount(int queue, int gap, int what) {
        return next().bestCount(queue, gap, what);
    }

    int put(long characters) {
        return next().put(characters);
    }

    int wipe() {
        return next().wipe();
    }

    int fault() {
        return next().fault();
    }

    int carryOut() {
        return next().carryOut();
    }

    int undo() {
        return next().undo();
    }

    int save(int slot) {
        return next().save(slot);
    }

    int restore(int slot) {
        return next().restore(slot);
    }

    // ---- steps

    /** The number by which put() is given a text of at most eight characters. */
    static long code(String text) {
        long code = 0;
        for (int n = 0; n < text.length(); n++) {
            code = code << 8 | text.charAt(n);
        }
        return code;
    }

    /** Puts a text of any length on the pad. */
    void type(String text) {
        for (int n = 0; n < text.length(); n += 8) {
            put(code(text.substring(n, Math.min(n + 8, text.length()))));
        }
    }

    /** Puts a text on the pad, and carries it out. */
    int order(String text) {
        type(text);
        return carryOut();
    }

    /** So many frames of one flow come, each by a call. */
    void come(int flow, int times) {
        for (int n = 0; n < times; n++) {
            come(flow);
        }
    }

    /** Ticks pass until a time, in few calls. */
    void passTo(int time) {
        int left = time - count(0);
        while (left >= 20 * 99) {
            order("t99" + ";t99".repeat(19));
            left -= 20 * 99;
        }
        while (left > 0) {
            int ticks = Math.min(left, 99);
            pass(ticks);
            left -= ticks;
        }
        Due.is("the time to which ticks passed", count(0), time);
    }

    /** A card in the midst of things: frames taken, waiting and dropped, two queues in the row, one masked. */
    static Card busy() {
        Card x = new Card();
        x.order("q0=2,20;f0*3;f1;t3;f2;m2");
        x.set(CoalescedCalls.RING, 3);
        x.order("f1*5;f3*2");
        x.call(1);
        x.call(0);
        return x;
    }

    // ---- looks

    void countsAre(int... want) {
        for (int what = 0; what < want.length; what++) {
            Due.is("count(" + what + ")", count(what), want[what]);
        }
    }

    void queueIs(int queue, int... want) {
        for (int what = 0; what < want.length; what++) {
            Due.is("of(" + queue + ", " + what + ")", of(queue, what), want[what]);
        }
    }

    void frameIs(int frame, int... want) {
        for (int what = 0; what < want.length; what++) {
            Due.is("frame(" + frame + ", " + what + ")", frame(frame, what), want[what]);
        }
    }

    /** The row, from its first queue to its last. */
    void rowIs(int... want) {
        for (int rank = 0; rank < 3; rank++) {
            Due.is("row(" + rank + ")", row(rank), rank < want.length ? want[rank] : CoalescedCalls.NO_SUCH);
        }
    }

    /** All that can be read of a card in some 75 calls, but for the pad and the history. */
    String look() {
        StringBuilder text = new StringBuilder();
        for (int what = 0; what <= 10; what++) {
            text.append(count(what)).append(' ');
        }
        for (int queue = 0; queue < 3; queue++) {
            for (int what = 0; what <= 12; what++) {
                text.append(of(queue, what)).append(' ');
            }
            text.append(row(queue)).append(' ');
        }
        return text.append(frames(5)).toString();
    }

    private String frames(int most) {
        StringBuilder text = new StringBuilder();
        int frames = Math.min(count(1), most);
        for (int frame = 0; frame < frames; frame++) {
            for (int what = 0; what <= 3; what++) {
                text.append(frame(frame, what)).append(' ');
            }
        }
        return text.toString();
    }

    private void glance(StringBuilder text, int answer) {
        text.append("-> ").append(answer).append(": ");
        for (int what = 0; what <= 12; what++) {
            text.append(count(what)).append(' ');
        }
    }

    /** All that can be learnt of a card in some 270 calls, also of its pad, history and slots; it is spent then. */
    String lookAtAll() {
        StringBuilder text = new StringBuilder(look());
        text.append(frames(FRAMES_LOOKED_AT)).append("fault ").append(fault()).append(' ');
        text.append("pad ").append(count(11)).append(' ');
        for (int n = 0; n <= 6; n++) {
            glance(text, undo());
        }
        glance(text, restore(0));
        glance(text, restore(1));
        glance(text, carryOut());
        return text.toString();
    }
}
