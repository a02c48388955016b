/** Coalesced calls of a card, by how many frames or how long they wait, which comes first. */
public final class CoalescedCalls {
    public static final int NO_SUCH = -1, BAD_VALUE = -2, BAD_TEXT = -3, TOO_MANY = -4, NOT_POSSIBLE = -5, NONE = -6;
    public static final int RING = 0, BUDGET = 1, FOLLOW = 2, COST = 3;

    private static final int QUEUES = 3;
    private static final int MOST_COUNT = 32, MOST_WAIT = 99;
    private static final int MOST_FRAMES = 400, MOST_FLOW = 99;
    private static final int MOST_TICKS = 99, LAST_TIME = 9999;
    private static final int LOOK_AHEAD = 500;
    private static final int SLOTS = 2;

    private static final int[] LEAST_VALUES = {1, 1, 0, 0};
    private static final int[] MOST_VALUES = {32, 16, 1, 50};
    private static final int[] FIRST_VALUES = {16, 4, 0, 6};

    private static final int WOULD_CALL = 0, IN_THE_ROW = 1, MASKED = 2, NO_FRAMES = 3, TOO_FEW_TOO_YOUNG = 4;

    private static final int TRIAL_FRAMES = 16, MOST_GAP = 20;
    // far above the longest wait and the 17 polls that a trial can need after its last frame
    private static final int TRIAL_END = 1000;

    private final Card card = new Card();
    // what-if questions are played on this one, so that they change nothing and make nothing
    private final Card probe = new Card();
    private final Card[] slots = new Card[SLOTS];
    private final boolean[] saved = new boolean[SLOTS];
    private final History history = new History();
    private final Pad pad = new Pad();

    public CoalescedCalls() {
        for (int slot = 0; slot < SLOTS; slot++) {
            slots[slot] = new Card();
        }
    }

    // ---- changes

    public int set(int setting, int value) {
        history.prepare(card);
        return history.keepIfDone(card.changeSetting(setting, value));
    }

    public int bounds(int queue, int count, int wait) {
        history.prepare(card);
        return history.keepIfDone(card.changeBounds(queue, count, wait));
    }

    public int come(int flow) {
        history.prepare(card);
        return history.keepIfDone(card.receive(flow));
    }

    public int mask(int queue) {
        history.prepare(card);
        return history.keepIfDone(card.changeMask(queue));
    }

    public int call(int queue) {
        history.prepare(card);
        return history.keepIfDone(card.callByHand(queue));
    }

    public int pass(int ticks) {
        history.prepare(card);
        return history.keepIfDone(card.passTicks(ticks));
    }

    // ---- what there is

    public int of(int queue, int what) {
        if (!isQueue(queue)) {
            return NO_SUCH;
        }
        return card.queues[queue].fact(what);
    }

    public int frame(int frame, int what) {
        if (!card.hasFrame(frame)) {
            return NO_SUCH;
        }
        return card.frameFact(frame, what);
    }

    public int row(int rank) {
        if (rank < 0) {
            return NO_SUCH;
        }
        return card.queueAt(rank);
    }

    public int count(int what) {
        switch (what) {
            case 0: return card.time;
            case 1: return card.came;
            case 2: return card.total(Queue.FRAMES_IN_RING);
            case 3: return card.total(Queue.FRAMES_TAKEN);
            case 4: return card.total(Queue.FRAMES_DROPPED);
            case 5: return card.total(Queue.CALLS_SO_FAR);
            case 6: return card.maskedSet();
            case 7: return card.settings[RING];
            case 8: return card.settings[BUDGET];
            case 9: return card.settings[FOLLOW];
            case 10: return card.settings[COST];
            case 11: return pad.length;
            case 12: return history.size;
            default: return BAD_VALUE;
        }
    }

    // ---- what if

    public int why(int queue) {
        if (!isQueue(queue)) {
            return NO_SUCH;
        }
        return card.whySilent(card.queues[queue]);
    }

    public int takenIn(int frame) {
        if (!card.hasFrame(frame)) {
            return NO_SUCH;
        }
        if (card.how[frame] != Card.IN_A_RING) {
            return NOT_POSSIBLE;
        }
        probe.copyFrom(card);
        for (int ticks = 1; ticks <= LOOK_AHEAD; ticks++) {
            probe.tick();
            if (probe.how[frame] == Card.TAKEN) {
                return ticks;
            }
        }
        return NONE;
    }

    public int would(int ticks, int what) {
        if (ticks < 1 || ticks > MOST_TICKS || what < 0 || what > 3) {
            return BAD_VALUE;
        }
        probe.copyFrom(card);
        probe.runTicks(ticks);
        switch (what) {
            case 0: return probe.total(Queue.FRAMES_TAKEN) - card.total(Queue.FRAMES_TAKEN);
            case 1: return probe.total(Queue.CALLS_SO_FAR) - card.total(Queue.CALLS_SO_FAR);
            case 2: return probe.total(Queue.TICKS_WAITED) - card.total(Queue.TICKS_WAITED);
            default: return probe.total(Queue.FRAMES_IN_RING);
        }
    }

    public int bestCount(int queue, int gap, int what) {
        if (!isQueue(queue)) {
            return NO_SUCH;
        }
        if (gap < 1 || gap > MOST_GAP || what < 0 || what > 1) {
            return BAD_VALUE;
        }
        int best = 1;
        int leastCost = trialCost(queue, 1, gap);
        for (int count = 2; count <= MOST_COUNT; count++) {
            int cost = trialCost(queue, count, gap);
            if (cost < leastCost) {
                best = count;
                leastCost = cost;
            }
        }
        return what == 0 ? best : leastCost;
    }

    // ---- texts

    public int put(long characters) {
        return pad.append(characters);
    }

    public int wipe() {
        return pad.clear();
    }

    public int fault() {
        return pad.firstFault();
    }

    public int carryOut() {
        if (pad.firstFault() != NONE) {
            return BAD_TEXT;
        }
        history.prepare(card);
        int done = 0;
        boolean good = true;
        pad.startReading();
        for (int read = 0; read < Pad.LONGEST && good && pad.readOrder(); read++) {
            for (int turn = 0; turn < pad.times && good; turn++) {
                good = carryOrder() >= 0;
                done += good ? 1 : 0;
            }
        }
        pad.clear();
        return history.keepIfDone(done);
    }

    // ---- undo, saving

    public int undo() {
        return history.goBack(card);
    }

    public int save(int slot) {
        if (!isSlot(slot)) {
            return BAD_VALUE;
        }
        slots[slot].copyFrom(card);
        saved[slot] = true;
        return card.came;
    }

    public int restore(int slot) {
        if (!isSlot(slot)) {
            return BAD_VALUE;
        }
        if (!saved[slot]) {
            return NOT_POSSIBLE;
        }
        history.prepare(card);
        card.copyFrom(slots[slot]);
        return history.keepIfDone(card.came);
    }

    // ---- help

    private static boolean isQueue(int queue) {
        return queue >= 0 && queue < QUEUES;
    }

    private static boolean isSlot(int slot) {
        return slot >= 0 && slot < SLOTS;
    }

    private int trialCost(int queue, int count, int gap) {
        probe.emptyLike(card);
        probe.changeBounds(queue, count, card.queues[queue].wait);
        for (int n = 0; n < TRIAL_FRAMES; n++) {
            // a queue's own number is a flow that comes to it
            probe.receive(queue);
            probe.runTicks(gap);
        }
        for (int n = 0; n < TRIAL_END && probe.queues[queue].inRing > 0; n++) {
            probe.tick();
        }
        return probe.total(Queue.TICKS_WAITED) + probe.settings[COST] * probe.total(Queue.CALLS_SO_FAR);
    }

    private int carryOrder() {
        switch (pad.kind) {
            case 'f': return card.receive(pad.first);
            case 't': return card.passTicks(pad.first);
            case 'q': return card.changeBounds(pad.first, pad.second, pad.third);
            default: return card.changeMask(pad.first);
        }
    }

    /** All that undo() and restore() bring back. */
    private static final class Card {
        private static final int IN_A_RING = 0, TAKEN = 1, DROPPED = 2;

        private final int[] settings = new int[FIRST_VALUES.length];
        private final Queue[] queues = new Queue[QUEUES];
        private int time = 0;

        private int came = 0;
        private final int[] flow = new int[MOST_FRAMES];
        private final int[] cameAt = new int[MOST_FRAMES];
        private final int[] how = new int[MOST_FRAMES];
        private final int[] takenAt = new int[MOST_FRAMES];

        private Card() {
            System.arraycopy(FIRST_VALUES, 0, settings, 0, FIRST_VALUES.length);
            for (int number = 0; number < QUEUES; number++) {
                queues[number] = new Queue();
            }
        }

        private void copyFrom(Card other) {
            System.arraycopy(other.settings, 0, settings, 0, settings.length);
            for (int number = 0; number < QUEUES; number++) {
                queues[number].copyFrom(other.queues[number]);
            }
            time = other.time;
            came = other.came;
            System.arraycopy(other.flow, 0, flow, 0, came);
            System.arraycopy(other.cameAt, 0, cameAt, 0, came);
            System.arraycopy(other.how, 0, how, 0, came);
            System.arraycopy(other.takenAt, 0, takenAt, 0, came);
        }

        /** Takes the settings and the bounds of another card, and nothing else of it. */
        private void emptyLike(Card other) {
            System.arraycopy(other.settings, 0, settings, 0, settings.length);
            for (int number = 0; number < QUEUES; number++) {
                queues[number].emptyLike(other.queues[number]);
            }
            time = 0;
            came = 0;
        }

        // -- changes: each one answers as the public call of its kind, and changes nothing if that is an error

        private int changeSetting(int setting, int value) {
            if (setting < 0 || setting >= settings.length) {
                return BAD_VALUE;
            }
            if (value < LEAST_VALUES[setting] || value > MOST_VALUES[setting]) {
                return BAD_VALUE;
            }
            int previous = settings[setting];
            settings[setting] = value;
            return previous;
        }

        private int changeBounds(int number, int count, int wait) {
            if (!isQueue(number)) {
                return NO_SUCH;
            }
            if (count < 1 || count > MOST_COUNT || wait < 1 || wait > MOST_WAIT) {
                return BAD_VALUE;
            }
            Queue queue = queues[number];
            int previous = queue.count;
            queue.count = count;
            queue.wait = wait;
            queue.inUse = count;
            return previous;
        }

        private int receive(int flowOfFrame) {
            if (flowOfFrame < 0 || flowOfFrame > MOST_FLOW) {
                return BAD_VALUE;
            }
            if (came >= MOST_FRAMES) {
                return TOO_MANY;
            }
            int number = came;
            came++;
            flow[number] = flowOfFrame;
            cameAt[number] = time;
            Queue queue = queues[flowOfFrame % QUEUES];
            if (queue.inRing >= settings[RING]) {
                how[number] = DROPPED;
                queue.dropped++;
                return number;
            }
            how[number] = IN_A_RING;
            queue.inRing++;
            if (queue.oldest == NONE) {
                queue.oldest = number;
            }
            return number;
        }

        private int changeMask(int number) {
            if (!isQueue(number)) {
                return NO_SUCH;
            }
            Queue queue = queues[number];
            queue.masked = !queue.masked;
            return queue.masked ? 1 : 0;
        }

        private int callByHand(int number) {
            if (!isQueue(number)) {
                return NO_SUCH;
            }
            Queue queue = queues[number];
            if (queue.isCalled() || queue.inRing == 0) {
                return NOT_POSSIBLE;
            }
            enterRow(queue);
            return queue.place;
        }

        private int passTicks(int ticks) {
            if (ticks < 1 || ticks > MOST_TICKS) {
                return BAD_VALUE;
            }
            if (time + ticks > LAST_TIME) {
                return NOT_POSSIBLE;
            }
            return runTicks(ticks);
        }

        // -- ticks

        private int runTicks(int ticks) {
            int taken = 0;
            for (int n = 0; n < ticks; n++) {
                taken += tick();
            }
            return taken;
        }

        private int tick() {
            int taken = poll();
            for (int number = 0; number < QUEUES; number++) {
                if (whySilent(queues[number]) == WOULD_CALL) {
                    enterRow(queues[number]);
                }
            }
            time++;
            return taken;
        }

        private int poll() {
            int first = queueAt(0);
            if (!isQueue(first)) {
                return 0;
            }
            Queue queue = queues[first];
            int taken = 0;
            while (taken < settings[BUDGET] && hasFrame(queue.oldest)) {
                takeOldest(queue, first);
                taken++;
            }
            leaveRow(queue);
            if (taken < settings[BUDGET]) {
                queue.becomeIdle(settings[FOLLOW] == 1);
            } else {
                queue.place = rowLength();
            }
            return taken;
        }

        private void takeOldest(Queue queue, int number) {
            int taken = queue.oldest;
            how[taken] = TAKEN;
            takenAt[taken] = time;
            queue.noteTaken(time - cameAt[taken]);
            queue.oldest = NONE;
            for (int next = taken + 1; next < came && queue.oldest == NONE; next++) {
                if (how[next] == IN_A_RING && flow[next] % QUEUES == number) {
                    queue.oldest = next;
                }
            }
        }

        private int whySilent(Queue queue) {
            if (queue.isCalled()) {
                return IN_THE_ROW;
            }
            if (queue.masked) {
                return MASKED;
            }
            if (!hasFrame(queue.oldest)) {
                return NO_FRAMES;
            }
            boolean enough = queue.inRing >= queue.inUse;
            boolean longEnough = time - cameAt[queue.oldest] >= queue.wait;
            return enough || longEnough ? WOULD_CALL : TOO_FEW_TOO_YOUNG;
        }

        // -- the row: each queue knows its own place in it

        private void enterRow(Queue queue) {
            queue.place = rowLength();
            queue.calls++;
            queue.sinceCall = 0;
        }

        private void leaveRow(Queue leaving) {
            for (Queue queue : queues) {
                if (queue.place > leaving.place) {
                    queue.place--;
                }
            }
            leaving.place = Queue.IDLE;
        }

        private int rowLength() {
            int called = 0;
            for (Queue queue : queues) {
                called += queue.isCalled() ? 1 : 0;
            }
            return called;
        }

        private int queueAt(int place) {
            for (int number = 0; number < QUEUES; number++) {
                if (queues[number].isCalled() && queues[number].place == place) {
                    return number;
                }
            }
            return NO_SUCH;
        }

        // -- what there is

        private boolean hasFrame(int number) {
            return number >= 0 && number < came;
        }

        private int frameFact(int number, int what) {
            switch (what) {
                case 0: return flow[number];
                case 1: return cameAt[number];
                case 2: return how[number];
                case 3: return waitOf(number);
                default: return BAD_VALUE;
            }
        }

        private int waitOf(int number) {
            if (how[number] == DROPPED) {
                return NONE;
            }
            int end = how[number] == TAKEN ? takenAt[number] : time;
            return end - cameAt[number];
        }

        private int total(int what) {
            int sum = 0;
            for (Queue queue : queues) {
                sum += queue.fact(what);
            }
            return sum;
        }

        private int maskedSet() {
            int set = 0;
            for (int number = 0; number < QUEUES; number++) {
                set |= queues[number].masked ? 1 << number : 0;
            }
            return set;
        }
    }

    private static final class Queue {
        private static final int IDLE = -1;
        // facts that are also told of all queues together
        private static final int FRAMES_IN_RING = 3, CALLS_SO_FAR = 6;
        private static final int FRAMES_TAKEN = 7, FRAMES_DROPPED = 8, TICKS_WAITED = 9;

        private int count = 4;
        private int wait = 10;
        private int inUse = 4;
        private int place = IDLE;
        private boolean masked = false;
        private int inRing = 0;
        // the ring needs no row of its own: it is this frame and the later ones of the queue that are how 0
        private int oldest = NONE;
        private int calls = 0;
        private int taken = 0;
        private int dropped = 0;
        private int waited = 0;
        private int longest = NONE;
        private int sinceCall = 0;

        private void copyFrom(Queue other) {
            count = other.count;
            wait = other.wait;
            inUse = other.inUse;
            place = other.place;
            masked = other.masked;
            inRing = other.inRing;
            oldest = other.oldest;
            calls = other.calls;
            taken = other.taken;
            dropped = other.dropped;
            waited = other.waited;
            longest = other.longest;
            sinceCall = other.sinceCall;
        }

        private void emptyLike(Queue other) {
            count = other.count;
            wait = other.wait;
            inUse = other.count;
            place = IDLE;
            masked = false;
            inRing = 0;
            oldest = NONE;
            calls = 0;
            taken = 0;
            dropped = 0;
            waited = 0;
            longest = NONE;
            sinceCall = 0;
        }

        private boolean isCalled() {
            return place != IDLE;
        }

        private void noteTaken(int ticks) {
            inRing--;
            taken++;
            sinceCall++;
            waited += ticks;
            // NONE is below every wait
            longest = ticks > longest ? ticks : longest;
        }

        private void becomeIdle(boolean follows) {
            if (follows && sinceCall > 2 * inUse) {
                inUse = Math.min(2 * inUse, MOST_COUNT);
            } else if (follows && 2 * sinceCall < inUse) {
                inUse = Math.max(inUse / 2, 1);
            }
            sinceCall = 0;
        }

        private int fact(int what) {
            switch (what) {
                case 0: return count;
                case 1: return wait;
                case 2: return inUse;
                case FRAMES_IN_RING: return inRing;
                case 4: return isCalled() ? 1 : 0;
                case 5: return masked ? 1 : 0;
                case CALLS_SO_FAR: return calls;
                case FRAMES_TAKEN: return taken;
                case FRAMES_DROPPED: return dropped;
                case TICKS_WAITED: return waited;
                case 10: return longest;
                case 11: return sinceCall;
                case 12: return oldest;
                default: return BAD_VALUE;
            }
        }
    }

    /** The states before the latest changes, and one place more for a change that may yet fail. */
    private static final class History {
        private static final int MOST = 6;
        private static final int PLACES = MOST + 1;

        private final Card[] states = new Card[PLACES];
        private int next = 0;
        private int size = 0;

        private History() {
            for (int n = 0; n < PLACES; n++) {
                states[n] = new Card();
            }
        }

        private void prepare(Card card) {
            states[next].copyFrom(card);
        }

        private int keepIfDone(int answer) {
            if (answer >= 0) {
                next = (next + 1) % PLACES;
                size = Math.min(size + 1, MOST);
            }
            return answer;
        }

        private int goBack(Card card) {
            if (size == 0) {
                return NOT_POSSIBLE;
            }
            next = (next + PLACES - 1) % PLACES;
            size--;
            card.copyFrom(states[next]);
            return size;
        }
    }

    /** The text, and a reader of it: the order read last is in kind, first, second, third and times. */
    private static final class Pad {
        private static final int LONGEST = 80;
        private static final int MOST_AT_ONCE = 8;
        private static final int FIRST_CODE = 33, LAST_CODE = 126;

        private final char[] signs = new char[LONGEST];
        private int length = 0;

        private int at = 0;
        private boolean broken = false;
        private char kind = 'm';
        private int first = 0;
        private int second = 0;
        private int third = 0;
        private int times = 0;

        private int append(long characters) {
            int more = sizeOf(characters);
            if (more == 0) {
                return BAD_VALUE;
            }
            if (length + more > LONGEST) {
                return TOO_MANY;
            }
            for (int n = 0; n < more; n++) {
                signs[length + n] = (char) (characters >>> 8 * (more - 1 - n) & 255);
            }
            length += more;
            return length;
        }

        /** How many characters a number holds; 0 if it holds none, or something else too. */
        private static int sizeOf(long characters) {
            long rest = characters;
            int size = 0;
            while (size < MOST_AT_ONCE && rest != 0) {
                long code = rest & 255;
                if (code < FIRST_CODE || code > LAST_CODE) {
                    return 0;
                }
                rest >>>= 8;
                size++;
            }
            return size;
        }

        private int clear() {
            int before = length;
            length = 0;
            return before;
        }

        private int firstFault() {
            startReading();
            boolean more = true;
            for (int read = 0; read < LONGEST && more; read++) {
                more = readOrder();
            }
            return broken || at < length ? at : NONE;
        }

        private void startReading() {
            at = 0;
            broken = false;
        }

        /** False if the text ends, or if the sign at which the reader stands cannot stand there. */
        private boolean readOrder() {
            if (at > 0 && !readSign(';')) {
                return false;
            }
            times = 1;
            if (readSign('f')) {
                readFrames();
            } else if (readSign('t')) {
                kind = 't';
                first = readNumber();
            } else if (readSign('q')) {
                readBounds();
            } else if (readSign('m')) {
                kind = 'm';
                first = readDigit();
            } else {
                broken = true;
            }
            return !broken;
        }

        private void readFrames() {
            kind = 'f';
            first = readNumber();
            if (readSign('*')) {
                times = readNumber();
            }
        }

        private void readBounds() {
            kind = 'q';
            first = readDigit();
            demand('=');
            second = readNumber();
            demand(',');
            third = readNumber();
        }

        private int readNumber() {
            int number = readDigit();
            // nothing may follow a zero: numbers have no leading ones
            if (number > 0 && digitStands()) {
                number = 10 * number + readDigit();
            }
            return number;
        }

        private int readDigit() {
            if (!digitStands()) {
                broken = true;
                return 0;
            }
            int digit = signs[at] - '0';
            at++;
            return digit;
        }

        private void demand(char sign) {
            if (!readSign(sign)) {
                broken = true;
            }
        }

        // once broken, nothing more is read, so that the reader stays at the fault

        private boolean readSign(char sign) {
            if (broken || at >= length || signs[at] != sign) {
                return false;
            }
            at++;
            return true;
        }

        private boolean digitStands() {
            return !broken && at < length && signs[at] >= '0' && signs[at] <= '9';
        }
    }
}
