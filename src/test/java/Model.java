import java.util.ArrayList;
import java.util.HashMap;
import java.util.List;
import java.util.Map;
import java.util.regex.Matcher;
import java.util.regex.Pattern;

/** The document once more, written another way (lists, deep copies, patterns), to compare answers with. */
final class Model {
    static final int NO_SUCH = -1, BAD_VALUE = -2, BAD_TEXT = -3, TOO_MANY = -4, NOT_POSSIBLE = -5, NONE = -6;
    private static final String N = "(?:0|[1-9][0-9]?)";
    private static final String ORDER = "(?:f" + N + "(?:\\*" + N + ")?|t" + N + "|q[0-9]=" + N + "," + N + "|m[0-9])";
    private static final Pattern TEXT = Pattern.compile(ORDER + "(?:;" + ORDER + ")*");
    private static final int[][] RANGES = {{1, 32}, {1, 16}, {0, 1}, {0, 50}};

    private static final class Frame {
        int flow, came, number;
        int taken = -1;
        boolean dropped;

        Frame copy() {
            Frame other = new Frame();
            other.flow = flow;
            other.came = came;
            other.number = number;
            other.taken = taken;
            other.dropped = dropped;
            return other;
        }
    }

    private static final class State {
        int[] settings = {16, 4, 0, 6};
        int[] counts = {4, 4, 4};
        int[] waits = {10, 10, 10};
        int[] inUse = {4, 4, 4};
        boolean[] masked = new boolean[3];
        int[] calls = new int[3];
        int[] since = new int[3];
        int time;
        List<Integer> row = new ArrayList<>();
        List<Frame> frames = new ArrayList<>();

        State copy() {
            State other = new State();
            other.settings = settings.clone();
            other.counts = counts.clone();
            other.waits = waits.clone();
            other.inUse = inUse.clone();
            other.masked = masked.clone();
            other.calls = calls.clone();
            other.since = since.clone();
            other.time = time;
            other.row.addAll(row);
            for (Frame frame : frames) {
                other.frames.add(frame.copy());
            }
            return other;
        }

        List<Frame> ring(int queue) {
            List<Frame> ring = new ArrayList<>();
            for (Frame frame : frames) {
                if (frame.flow % 3 == queue && frame.taken < 0 && !frame.dropped) {
                    ring.add(frame);
                }
            }
            return ring;
        }

        int come(int flow) {
            if (flow < 0 || flow > 99) return BAD_VALUE;
            if (frames.size() == 400) return TOO_MANY;
            Frame frame = new Frame();
            frame.flow = flow;
            frame.came = time;
            frame.number = frames.size();
            frame.dropped = ring(flow % 3).size() >= settings[0];
            frames.add(frame);
            return frame.number;
        }

        int bounds(int queue, int count, int wait) {
            if (queue < 0 || queue > 2) return NO_SUCH;
            if (count < 1 || count > 32 || wait < 1 || wait > 99) return BAD_VALUE;
            int before = counts[queue];
            counts[queue] = count;
            inUse[queue] = count;
            waits[queue] = wait;
            return before;
        }

        int mask(int queue) {
            if (queue < 0 || queue > 2) return NO_SUCH;
            masked[queue] = !masked[queue];
            return masked[queue] ? 1 : 0;
        }

        int pass(int ticks) {
            if (ticks < 1 || ticks > 99) return BAD_VALUE;
            if (time + ticks > 9999) return NOT_POSSIBLE;
            int taken = 0;
            for (int n = 0; n < ticks; n++) taken += tick();
            return taken;
        }

        int tick() {
            int taken = 0;
            if (!row.isEmpty()) {
                int queue = row.remove(0);
                for (Frame frame : ring(queue)) {
                    if (taken < settings[1]) {
                        frame.taken = time;
                        taken++;
                    }
                }
                since[queue] += taken;
                if (taken == settings[1]) {
                    row.add(queue);
                } else {
                    if (settings[2] == 1) follow(queue);
                    since[queue] = 0;
                }
            }
            for (int queue = 0; queue < 3; queue++) {
                if (why(queue) == 0) enter(queue);
            }
            time++;
            return taken;
        }

        void follow(int queue) {
            int was = inUse[queue];
            if (since[queue] > was * 2) {
                inUse[queue] = was * 2 > 32 ? 32 : was * 2;
            } else if (since[queue] * 2 < was) {
                inUse[queue] = was / 2 < 1 ? 1 : was / 2;
            }
        }

        void enter(int queue) {
            row.add(queue);
            calls[queue]++;
            since[queue] = 0;
        }

        int why(int queue) {
            List<Frame> ring = ring(queue);
            if (row.contains(queue)) return 1;
            if (masked[queue]) return 2;
            if (ring.isEmpty()) return 3;
            return ring.size() < inUse[queue] && time - ring.get(0).came < waits[queue] ? 4 : 0;
        }

        int taken(int queue) {
            int sum = 0;
            for (Frame frame : frames) sum += frame.flow % 3 == queue && frame.taken >= 0 ? 1 : 0;
            return sum;
        }

        int dropped(int queue) {
            int sum = 0;
            for (Frame frame : frames) sum += frame.flow % 3 == queue && frame.dropped ? 1 : 0;
            return sum;
        }

        int waited(int queue, boolean longest) {
            int sum = longest ? NONE : 0;
            for (Frame frame : frames) {
                if (frame.flow % 3 == queue && frame.taken >= 0) {
                    int waited = frame.taken - frame.came;
                    sum = longest ? Math.max(sum, waited) : sum + waited;
                }
            }
            return sum;
        }

        int all(int what) {
            int sum = 0;
            for (int queue = 0; queue < 3; queue++) sum += of(queue, what);
            return sum;
        }

        int of(int queue, int what) {
            switch (what) {
                case 0: return counts[queue];
                case 1: return waits[queue];
                case 2: return inUse[queue];
                case 3: return ring(queue).size();
                case 4: return row.contains(queue) ? 1 : 0;
                case 5: return masked[queue] ? 1 : 0;
                case 6: return calls[queue];
                case 7: return taken(queue);
                case 8: return dropped(queue);
                case 9: return waited(queue, false);
                case 10: return waited(queue, true);
                case 11: return row.contains(queue) ? since[queue] : 0;
                case 12: return ring(queue).isEmpty() ? NONE : ring(queue).get(0).number;
                default: return BAD_VALUE;
            }
        }
    }

    private State now = new State();
    private final List<State> history = new ArrayList<>();
    private final Map<Integer, State> slots = new HashMap<>();
    private String pad = "";

    private int changed(State before, int answer) {
        if (answer >= 0) {
            history.add(before);
            if (history.size() > 6) history.remove(0);
        }
        return answer;
    }

    int set(int setting, int value) {
        if (setting < 0 || setting > 3 || value < RANGES[setting][0] || value > RANGES[setting][1]) return BAD_VALUE;
        State before = now.copy();
        now.settings[setting] = value;
        return changed(before, before.settings[setting]);
    }

    int bounds(int queue, int count, int wait) {
        State before = now.copy();
        return changed(before, now.bounds(queue, count, wait));
    }

    int come(int flow) {
        State before = now.copy();
        return changed(before, now.come(flow));
    }

    int mask(int queue) {
        State before = now.copy();
        return changed(before, now.mask(queue));
    }

    int call(int queue) {
        if (queue < 0 || queue > 2) return NO_SUCH;
        if (now.row.contains(queue) || now.ring(queue).isEmpty()) return NOT_POSSIBLE;
        State before = now.copy();
        now.enter(queue);
        return changed(before, now.row.size() - 1);
    }

    int pass(int ticks) {
        State before = now.copy();
        return changed(before, now.pass(ticks));
    }

    int of(int queue, int what) {
        return queue < 0 || queue > 2 ? NO_SUCH : now.of(queue, what);
    }

    int frame(int number, int what) {
        if (number < 0 || number >= now.frames.size()) return NO_SUCH;
        Frame frame = now.frames.get(number);
        switch (what) {
            case 0: return frame.flow;
            case 1: return frame.came;
            case 2: return frame.dropped ? 2 : frame.taken >= 0 ? 1 : 0;
            case 3: return frame.dropped ? NONE : (frame.taken >= 0 ? frame.taken : now.time) - frame.came;
            default: return BAD_VALUE;
        }
    }

    int row(int rank) {
        return rank < 0 || rank >= now.row.size() ? NO_SUCH : now.row.get(rank);
    }

    int count(int what) {
        if (what == 0) return now.time;
        if (what == 1) return now.frames.size();
        if (what == 2) return now.all(3);
        if (what == 3) return now.all(7);
        if (what == 4) return now.all(8);
        if (what == 5) return now.all(6);
        if (what == 6) return now.of(0, 5) + 2 * now.of(1, 5) + 4 * now.of(2, 5);
        if (what >= 7 && what <= 10) return now.settings[what - 7];
        if (what == 11) return pad.length();
        return what == 12 ? history.size() : BAD_VALUE;
    }

    int why(int queue) {
        return queue < 0 || queue > 2 ? NO_SUCH : now.why(queue);
    }

    int takenIn(int number) {
        if (number < 0 || number >= now.frames.size()) return NO_SUCH;
        Frame frame = now.frames.get(number);
        if (frame.dropped || frame.taken >= 0) return NOT_POSSIBLE;
        State then = now.copy();
        for (int ticks = 1; ticks <= 500; ticks++) {
            then.tick();
            if (then.frames.get(number).taken >= 0) return ticks;
        }
        return NONE;
    }

    int would(int ticks, int what) {
        if (ticks < 1 || ticks > 99 || what < 0 || what > 3) return BAD_VALUE;
        State then = now.copy();
        int taken = 0;
        for (int n = 0; n < ticks; n++) taken += then.tick();
        if (what == 0) return taken;
        if (what == 1) return then.all(6) - now.all(6);
        return what == 2 ? then.all(9) - now.all(9) : then.all(3);
    }

    int bestCount(int queue, int gap, int what) {
        if (queue < 0 || queue > 2) return NO_SUCH;
        if (gap < 1 || gap > 20 || what < 0 || what > 1) return BAD_VALUE;
        int best = 0;
        int least = Integer.MAX_VALUE;
        for (int count = 1; count <= 32; count++) {
            int cost = cost(queue, gap, count);
            if (cost < least) {
                least = cost;
                best = count;
            }
        }
        return what == 0 ? best : least;
    }

    private int cost(int queue, int gap, int count) {
        State test = new State();
        test.settings = now.settings.clone();
        test.bounds(queue, count, now.waits[queue]);
        for (int tick = 0; tick < 16 * gap || test.all(3) > 0; tick++) {
            if (tick % gap == 0 && tick < 16 * gap) test.come(queue + 3);
            test.tick();
        }
        return test.all(9) + now.settings[3] * test.all(6);
    }

    int put(long characters) {
        StringBuilder text = new StringBuilder();
        for (int shift = 56; shift >= 0; shift -= 8) {
            int code = (int) (characters >> shift) & 255;
            if (code == 0 && text.length() == 0) continue;
            if (code < 33 || code > 126) return BAD_VALUE;
            text.append((char) code);
        }
        if (text.length() == 0) return BAD_VALUE;
        if (pad.length() + text.length() > 80) return TOO_MANY;
        pad += text;
        return pad.length();
    }

    int wipe() {
        int length = pad.length();
        pad = "";
        return length;
    }

    int fault() {
        for (int end = 1; end <= pad.length(); end++) {
            Matcher matcher = TEXT.matcher(pad.substring(0, end));
            if (!matcher.matches() && !matcher.hitEnd()) return end - 1;
        }
        return TEXT.matcher(pad).matches() ? NONE : pad.length();
    }

    int carryOut() {
        if (!TEXT.matcher(pad).matches()) return BAD_TEXT;
        State before = now.copy();
        int done = 0;
        for (int[] order : orders(pad)) {
            int answer = order[0] == 'f' ? now.come(order[1]) : order[0] == 't' ? now.pass(order[1])
                    : order[0] == 'q' ? now.bounds(order[1], order[2], order[3]) : now.mask(order[1]);
            if (answer < 0) break;
            done++;
        }
        pad = "";
        return changed(before, done);
    }

    private static List<int[]> orders(String text) {
        List<int[]> orders = new ArrayList<>();
        for (String part : text.split(";")) {
            String[] numbers = part.substring(1).split("[*=,]");
            int[] order = new int[4];
            order[0] = part.charAt(0);
            for (int n = 0; n < numbers.length; n++) order[n + 1] = Integer.parseInt(numbers[n]);
            int times = part.indexOf('*') < 0 ? 1 : order[2];
            for (int n = 0; n < times; n++) orders.add(order);
        }
        return orders;
    }

    int undo() {
        if (history.isEmpty()) return NOT_POSSIBLE;
        now = history.remove(history.size() - 1);
        return history.size();
    }

    int save(int slot) {
        if (slot < 0 || slot > 1) return BAD_VALUE;
        slots.put(slot, now.copy());
        return now.frames.size();
    }

    int restore(int slot) {
        if (slot < 0 || slot > 1) return BAD_VALUE;
        if (!slots.containsKey(slot)) return NOT_POSSIBLE;
        State before = now;
        now = slots.get(slot).copy();
        return changed(before, now.frames.size());
    }
}
