/** Long runs of mixed calls, the same each time, whose answers are compared with those of Model. */
public final class ModelTests {
    private static final int RUNS = 1500;
    private static final int CALLS = 440;
    private static final int[] EDGES = {Integer.MIN_VALUE, -1000, -7, -2, -1, 0, 1, 2, 3, 4, 5, 13, 16, 17, 20, 21, 32,
        33, 50, 51, 99, 100, 101, 399, 400, 401, 500, 9999, 10000, Integer.MAX_VALUE};
    private static final String SIGNS = "ftqm*;=,0123456789x~!F -";
    private static final String[] NAMES = {"set", "bounds", "come", "mask", "call", "pass", "of", "frame", "row",
        "count", "why", "takenIn", "would", "bestCount", "put", "wipe", "fault", "carryOut", "undo", "save",
        "restore"};
    // how often each call is made, by the numbers of NAMES, in four moods of a run
    private static final int[][] MOODS = {
        {3, 4, 24, 2, 4, 14, 8, 6, 3, 5, 5, 5, 4, 1, 3, 1, 2, 3, 3, 2, 2},
        {4, 4, 44, 1, 3, 30, 8, 6, 3, 5, 4, 5, 3, 0, 0, 0, 0, 0, 1, 1, 1},
        {2, 2, 6, 2, 2, 5, 5, 3, 2, 4, 2, 2, 2, 0, 30, 3, 12, 14, 5, 1, 1},
        {8, 8, 12, 4, 4, 8, 8, 4, 3, 6, 4, 3, 3, 2, 4, 1, 1, 3, 14, 7, 7}};

    private static long seed = 0;
    private static CoalescedCalls real;
    private static Model model;
    private static String text = "";
    private static int faults = 0;

    private ModelTests() {
    }

    public static void main(String[] args) {
        for (int run = 0; run < RUNS && faults < 5; run++) {
            seed = 77 + run * 7919L;
            play(run);
        }
        Due.end();
    }

    private static int draw(int bound) {
        seed = seed * 6364136223846793005L + 1442695040888963407L;
        return (int) ((seed >>> 33) % bound);
    }

    private static void play(int run) {
        real = new CoalescedCalls();
        model = new Model();
        text = "";
        int[] mood = MOODS[run % MOODS.length];
        int quiet = draw(3);
        int before = faults;
        for (int n = 0; n < CALLS && faults == before; n++) {
            Due.part("run " + run + ", call " + n);
            move(kind(mood), draw(14 + 10 * quiet) == 0, run);
        }
        Due.part("run " + run + ", at its end");
        look();
    }

    private static int kind(int[] mood) {
        int sum = 0;
        for (int weight : mood) sum += weight;
        int drawn = draw(sum);
        int kind = 0;
        while (drawn >= mood[kind]) {
            drawn -= mood[kind];
            kind++;
        }
        return kind;
    }

    private static int wild(boolean wild, int usual) {
        return wild && draw(2) == 0 ? EDGES[draw(EDGES.length)] : usual;
    }

    private static void move(int kind, boolean wild, int run) {
        int queue = wild(wild, draw(3));
        switch (kind) {
            case 0: moveSetting(wild); return;
            case 1: moveBounds(wild, queue); return;
            case 2: moveCome(wild, run); return;
            case 3: same(kind, real.mask(queue), model.mask(queue), queue); return;
            case 4: same(kind, real.call(queue), model.call(queue), queue); return;
            case 5: movePass(wild, run); return;
            case 14: movePut(wild); return;
            case 17: moveCarryOut(); return;
            case 15: text = ""; same(kind, real.wipe(), model.wipe()); return;
            case 16: same(kind, real.fault(), model.fault()); return;
            case 18: same(kind, real.undo(), model.undo()); return;
            case 19: case 20: moveSlot(kind, wild(wild, draw(2))); return;
            default: ask(kind, wild, queue);
        }
    }

    private static void moveSetting(boolean wild) {
        int setting = wild(wild, draw(4));
        int usual = setting == 0 ? 1 + draw(32) : setting == 1 ? 1 + draw(16) : setting == 2 ? draw(2) : draw(51);
        int value = wild(wild, draw(2) == 0 ? usual : Math.min(usual, 1 + draw(4)));
        same(0, real.set(setting, value), model.set(setting, value), setting, value);
    }

    private static void moveBounds(boolean wild, int queue) {
        int count = wild(wild, 1 + draw(draw(2) == 0 ? 32 : 5));
        int wait = wild(wild, 1 + draw(draw(2) == 0 ? 99 : 12));
        same(1, real.bounds(queue, count, wait), model.bounds(queue, count, wait), queue, count, wait);
    }

    private static void moveCome(boolean wild, int run) {
        int flow = wild(wild, run % 3 == 0 ? 3 * draw(33) : draw(100));
        same(2, real.come(flow), model.come(flow), flow);
    }

    private static void movePass(boolean wild, int run) {
        // some runs hurry, to come to the bound of the time
        int ticks = wild(wild, run % 7 == 0 ? 60 + draw(40) : draw(5) == 0 ? 1 + draw(30) : 1 + draw(3));
        same(5, real.pass(ticks), model.pass(ticks), ticks);
    }

    private static void moveSlot(int kind, int slot) {
        if (kind == 19) {
            same(kind, real.save(slot), model.save(slot), slot);
        } else {
            same(kind, real.restore(slot), model.restore(slot), slot);
        }
    }

    private static void moveCarryOut() {
        text = model.fault() == Model.NONE ? "" : text;
        same(17, real.carryOut(), model.carryOut());
    }

    private static void movePut(boolean wild) {
        long characters = 0;
        int length = 1 + draw(8);
        StringBuilder more = new StringBuilder();
        for (int n = 0; n < length; n++) {
            more.append(nextSign(text + more));
        }
        for (int n = 0; n < length; n++) {
            characters = characters << 8 | more.charAt(n);
        }
        if (wild) {
            characters = draw(2) == 0 ? characters ^ 1L << draw(64) : characters & ~(255L << 8 * draw(8));
        }
        int answer = model.put(characters);
        if (answer >= 0 && !wild) {
            text += more;
        }
        same(14, real.put(characters), answer, characters);
    }

    /** Mostly a sign that can stand there, by a look at the last order. */
    private static char nextSign(String before) {
        if (draw(60) == 0) return SIGNS.charAt(draw(SIGNS.length()));
        String order = before.substring(before.lastIndexOf(';') + 1);
        if (order.isEmpty()) return "ftqmf".charAt(draw(5));
        char last = order.charAt(order.length() - 1);
        char digit = (char) ('0' + draw(10));
        if (last == 'q' || last == 'm') return draw(8) == 0 ? digit : (char) ('0' + draw(3));
        if (last < '0' || last > '9') return digit;
        boolean two = order.length() > 1 && order.charAt(order.length() - 2) >= '0'
                && order.charAt(order.length() - 2) <= '9' || last == '0';
        if (order.length() == 2 && order.charAt(0) == 'q') return '=';
        if (order.length() == 2 && order.charAt(0) == 'm') return ';';
        if (!two && draw(3) == 0) return digit;
        if (order.charAt(0) == 'q' && order.indexOf(',') < 0) return ',';
        return order.charAt(0) == 'f' && order.indexOf('*') < 0 && draw(2) == 0 ? '*' : ';';
    }

    private static void ask(int kind, boolean wild, int queue) {
        int frame = wild(wild, draw(Math.max(1, Math.min(400, model.count(1) + draw(3)))));
        switch (kind) {
            case 6: askOf(queue, wild(wild, draw(13))); return;
            case 7: askFrame(frame, wild(wild, draw(4))); return;
            case 8: int rank = wild(wild, draw(3)); same(kind, real.row(rank), model.row(rank), rank); return;
            case 9: askCount(wild(wild, draw(13))); return;
            case 10: same(kind, real.why(queue), model.why(queue), queue); return;
            case 11: same(kind, real.takenIn(frame), model.takenIn(frame), frame); return;
            case 12: askWould(wild(wild, 1 + draw(draw(2) == 0 ? 99 : 15)), wild(wild, draw(4))); return;
            default: askBest(queue, wild(wild, 1 + draw(20)), wild(wild, draw(2)));
        }
    }

    private static void askOf(int queue, int what) {
        same(6, real.of(queue, what), model.of(queue, what), queue, what);
    }

    private static void askFrame(int frame, int what) {
        same(7, real.frame(frame, what), model.frame(frame, what), frame, what);
    }

    private static void askCount(int what) {
        same(9, real.count(what), model.count(what), what);
    }

    private static void askWould(int ticks, int what) {
        same(12, real.would(ticks, what), model.would(ticks, what), ticks, what);
    }

    private static void askBest(int queue, int gap, int what) {
        same(13, real.bestCount(queue, gap, what), model.bestCount(queue, gap, what), queue, gap, what);
    }

    private static void look() {
        for (int queue = 0; queue < 3; queue++) {
            for (int what = 0; what < 13; what++) {
                askOf(queue, what);
            }
        }
        for (int what = 0; what < 13; what++) {
            askCount(what);
        }
    }

    private static void same(int kind, int got, int want, long... given) {
        StringBuilder call = new StringBuilder(NAMES[kind]).append('(');
        for (int n = 0; n < given.length; n++) {
            call.append(n == 0 ? "" : ", ").append(given[n]);
        }
        Due.is(call.append(')').toString(), got, want);
        faults += got == want ? 0 : 1;
    }
}
