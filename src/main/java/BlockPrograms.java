/**
 * Control by blocks: small machines of 26 kinds, wired one to another, run tick by tick in an order
 * that follows the wires. The document's numbered promises say what each public method does.
 */
public final class BlockPrograms {
    public static final int NONE = -1;

    private static final int MOST_BLOCKS = 40;
    private static final int POINTS = 10;
    private static final int INPUTS = 3;
    private static final int ROW_LENGTH = 8;
    private static final int MOST_SAVINGS = 5;
    private static final int MOST_TICKS_A_RUN = 500;
    private static final int LATEST_TIME = 3000;
    private static final int DAY = 1440;

    private static final int POINT = 0;
    private static final int NUMBER = 1;
    private static final int ADD = 2;
    private static final int LESS_BY = 3;
    private static final int TIMES = 4;
    private static final int OVER = 5;
    private static final int REST = 6;
    private static final int LEAST = 7;
    private static final int GREATEST = 8;
    private static final int BELOW = 9;
    private static final int ALIKE = 10;
    private static final int BOTH = 11;
    private static final int EITHER = 12;
    private static final int NOT = 13;
    private static final int CHOICE = 14;
    private static final int ROW = 15;
    private static final int DELAY = 16;
    private static final int RAMP = 17;
    private static final int COUNT = 18;
    private static final int LATCH = 19;
    private static final int CLOCK = 20;
    private static final int PULSE = 21;
    private static final int LIMIT = 22;
    private static final int HOLD = 23;
    private static final int SUM = 24;
    private static final int SINCE = 25;

    /** How many inputs each kind names; they are always the first ones. */
    private static final int[] NAMED_INPUTS = {
        0, 0, 2, 2, 2, 2, 2, 2, 2, 2, 2, 2, 2, 1, 3, 1, 1, 1, 2, 2, 0, 1, 1, 2, 2, 1
    };

    private static final int NO_FAILURE = 0;
    private static final int ZERO = 1;
    private static final int BAD = 2;
    private static final int NOTHING = 3;

    private final Block[] blocks = new Block[MOST_BLOCKS];
    private int count = 0;
    private final int[] points = new int[POINTS];
    private int time = 0;
    private final int[] line = new int[MOST_BLOCKS];
    private final boolean[] placed = new boolean[MOST_BLOCKS];
    private final Failures failures = new Failures();
    private final Saving[] savings = new Saving[MOST_SAVINGS];
    private int savingCount = 0;

    public BlockPrograms() {
    }

    public int block(int kind) throws IllegalArgumentException, IllegalStateException {
        requireKind(kind);
        if (count >= MOST_BLOCKS) {
            throw new IllegalStateException("there are 40 blocks");
        }
        blocks[count] = new Block(kind);
        count++;
        return count - 1;
    }

    public int wire(int block, int input, int to) throws IllegalArgumentException {
        Block wired = existing(block);
        if (input < 0 || input >= INPUTS) {
            throw new IllegalArgumentException("no such input");
        }
        if (to != NONE) {
            existing(to);
        }
        int before = wired.wires[input];
        wired.wires[input] = to;
        return before;
    }

    public void numbers(int block, int p, int q) throws IllegalArgumentException {
        Block numbered = existing(block);
        numbered.p = p;
        numbered.q = q;
    }

    public int row(int block, int k, int v) throws IllegalArgumentException, IllegalStateException {
        Block owner = existing(block);
        if (!isPlaceInRow(k)) {
            throw new IllegalArgumentException("no such place in a row");
        }
        if (owner.kind != ROW) {
            throw new IllegalStateException("the block is no ROW");
        }
        int before = owner.places[k];
        owner.places[k] = v;
        return before;
    }

    public int safe(int block, int v) throws IllegalArgumentException {
        Block owner = existing(block);
        int before = owner.safeValue;
        owner.safeValue = v;
        return before;
    }

    public int point(int point, int v) throws IllegalArgumentException {
        if (!isPoint(point)) {
            throw new IllegalArgumentException("no such point");
        }
        int before = points[point];
        points[point] = v;
        return before;
    }

    public boolean hand(int block, boolean on, int v) throws IllegalArgumentException {
        Block held = existing(block);
        boolean before = held.inHand;
        held.inHand = on;
        held.handValue = v;
        return before;
    }

    public int order() {
        return lineUp();
    }

    public int at(int k) throws IllegalArgumentException {
        if (k < 0 || k >= count) {
            throw new IllegalArgumentException("no such place in the order");
        }
        lineUp();
        return line[k];
    }

    public int run(int n) throws IllegalArgumentException, IllegalStateException {
        if (n < 1 || n > MOST_TICKS_A_RUN) {
            throw new IllegalArgumentException("n is not 1 to 500");
        }
        if (lineUp() < count) {
            throw new IllegalStateException("there is a ring");
        }
        if (time + n > LATEST_TIME) {
            throw new IllegalStateException("time would be above 3000");
        }
        for (int i = 0; i < n; i++) {
            tick();
        }
        return time;
    }

    public int out(int block) throws IllegalArgumentException {
        return existing(block).output;
    }

    public int state(int block, int what) throws IllegalArgumentException {
        Block owner = existing(block);
        if (what < 0 || what > 1) {
            throw new IllegalArgumentException("a state has the values 0 and 1");
        }
        return what == 0 ? owner.first : owner.second;
    }

    public int failed(int kind) throws IllegalArgumentException {
        if (kind < 0 || kind > NOTHING) {
            throw new IllegalArgumentException("no such kind of failure");
        }
        return failures.totals[kind];
    }

    public int failure(int k, int what) throws IllegalArgumentException {
        if (k < 0 || k >= failures.keptCount()) {
            throw new IllegalArgumentException("no such failure is kept");
        }
        if (what < 0 || what >= Failures.FACTS) {
            throw new IllegalArgumentException("a failure has the facts 0 to 2");
        }
        return failures.fact(k, what);
    }

    public int save() throws IllegalStateException {
        if (savingCount >= MOST_SAVINGS) {
            throw new IllegalStateException("there are 5 savings");
        }
        Saving saving = new Saving();
        for (int i = 0; i < count; i++) {
            saving.keep(blocks[i]);
        }
        savings[savingCount] = saving;
        savingCount++;
        return savingCount - 1;
    }

    public int back(int saved) throws IllegalArgumentException {
        if (saved < 0 || saved >= savingCount) {
            throw new IllegalArgumentException("no such saving");
        }
        Saving saving = savings[saved];
        int restored = 0;
        for (int i = 0; i < count; i++) {
            if (saving.restore(i, blocks[i])) {
                restored++;
            }
        }
        return restored;
    }

    public int become(int block, int kind) throws IllegalArgumentException {
        Block changed = existing(block);
        requireKind(kind);
        int before = changed.kind;
        changed.kind = kind;
        changed.output = 0;
        changed.first = 0;
        changed.second = 0;
        return before;
    }

    private static void requireKind(int kind) {
        if (kind < 0 || kind >= NAMED_INPUTS.length) {
            throw new IllegalArgumentException("no such kind");
        }
    }

    private Block existing(int number) {
        if (number < 0 || number >= count) {
            throw new IllegalArgumentException("no such block");
        }
        return blocks[number];
    }

    private static boolean isPoint(int number) {
        return number >= 0 && number < POINTS;
    }

    private static boolean isPlaceInRow(int number) {
        return number >= 0 && number < ROW_LENGTH;
    }

    /** Lays the line anew; answers how many blocks come before there is a ring. */
    private int lineUp() {
        for (int i = 0; i < count; i++) {
            placed[i] = false;
        }
        int come = 0;
        while (come < count) {
            int next = leastThatMayCome();
            if (next == NONE) {
                break;
            }
            placed[next] = true;
            line[come] = next;
            come++;
        }
        int end = come;
        for (int i = 0; i < count && end < count; i++) {
            if (!placed[i]) {
                line[end] = i;
                end++;
            }
        }
        return come;
    }

    private int leastThatMayCome() {
        for (int i = 0; i < count; i++) {
            if (!placed[i] && mayCome(blocks[i])) {
                return i;
            }
        }
        return NONE;
    }

    private boolean mayCome(Block block) {
        if (block.kind == DELAY) {
            return true;
        }
        for (int input = 0; input < block.namedInputs(); input++) {
            int source = block.wires[input];
            if (source >= 0 && source < count && !placed[source]) {
                return false;
            }
        }
        return true;
    }

    private void tick() {
        time++;
        for (int k = 0; k < count; k++) {
            reckon(line[k]);
        }
        for (int i = 0; i < count; i++) {
            if (blocks[i].kind == DELAY) {
                takeUp(i);
            }
        }
    }

    private void reckon(int number) {
        Block block = blocks[number];
        int a = outputOf(block.wires[0]);
        int b = outputOf(block.wires[1]);
        int c = outputOf(block.wires[2]);
        int failure = failureOf(block, a, b);
        if (failure != NO_FAILURE) {
            fail(number, failure);
        } else if (block.kind == POINT) {
            block.say(isPoint(block.p) ? points[block.p] : 0);
        } else if (block.kind >= ADD && block.kind <= CHOICE) {
            block.say(combined(block.kind, a, b, c));
        } else {
            block.say(block.ownReckoning(a, b, time));
        }
    }

    private void fail(int number, int failure) {
        failures.note(time, number, failure);
        blocks[number].say(blocks[number].safeValue);
    }

    /** A DELAY looks at its input behind all others, so that it may stand in a circle of wires. */
    private void takeUp(int number) {
        Block delay = blocks[number];
        if (delay.wires[0] == NONE) {
            fail(number, NOTHING);
        } else {
            delay.first = outputOf(delay.wires[0]);
        }
    }

    /** Inputs that the kind does not name may be unwired: what they say is not looked at. */
    private int outputOf(int number) {
        return number >= 0 && number < count ? blocks[number].output : 0;
    }

    private static int failureOf(Block block, int a, int b) {
        // A DELAY's missing wire is told when it takes its input, not in the order.
        if (block.kind != DELAY && block.lacksWire()) {
            return NOTHING;
        }
        switch (block.kind) {
            case POINT:
                return isPoint(block.p) ? NO_FAILURE : BAD;
            case ROW:
                return isPlaceInRow(a) ? NO_FAILURE : BAD;
            case OVER:
            case REST:
                return b == 0 ? ZERO : NO_FAILURE;
            default:
                return NO_FAILURE;
        }
    }

    private static int combined(int kind, int a, int b, int c) {
        switch (kind) {
            case ADD:
                return a + b;
            case LESS_BY:
                return a - b;
            case TIMES:
                return a * b;
            case OVER:
                return quotient(a, b);
            case REST:
                return a - b * quotient(a, b);
            case LEAST:
                return Math.min(a, b);
            case GREATEST:
                return Math.max(a, b);
            case BELOW:
                return asNumber(a < b);
            case ALIKE:
                return asNumber(a == b);
            case BOTH:
                return asNumber(a != 0 && b != 0);
            case EITHER:
                return asNumber(a != 0 || b != 0);
            case NOT:
                return asNumber(a == 0);
            case CHOICE:
                return a != 0 ? b : c;
            default:
                return 0;
        }
    }

    private static int quotient(int a, int b) {
        return b == 0 ? 0 : a / b;
    }

    private static int asNumber(boolean yes) {
        return yes ? 1 : 0;
    }

    private static final class Block {
        int kind;
        int p = 0;
        int q = 0;
        int safeValue = 0;
        int output = 0;
        int first = 0;
        int second = 0;
        boolean inHand = false;
        int handValue = 0;
        final int[] wires = {NONE, NONE, NONE};
        final int[] places = new int[ROW_LENGTH];

        Block(int kind) {
            this.kind = kind;
        }

        int namedInputs() {
            return kind >= 0 && kind < NAMED_INPUTS.length ? NAMED_INPUTS[kind] : 0;
        }

        boolean lacksWire() {
            for (int input = 0; input < namedInputs(); input++) {
                if (wires[input] == NONE) {
                    return true;
                }
            }
            return false;
        }

        void say(int value) {
            output = inHand ? handValue : value;
        }

        /** The kinds that use the block's own numbers, row, output before or state. */
        int ownReckoning(int a, int b, int time) {
            switch (kind) {
                case NUMBER:
                    return p;
                case ROW:
                    return isPlaceInRow(a) ? places[a] : 0;
                case DELAY:
                    return first;
                case RAMP:
                    return ramped(a);
                case COUNT:
                    return counted(a, b);
                case LATCH:
                    return latched(a, b);
                case CLOCK:
                    return asNumber(isClockOn(time % DAY));
                case PULSE:
                    return pulsed(a);
                case LIMIT:
                    return a < p ? p : a > q ? q : a;
                case HOLD:
                    return b != 0 ? output : a;
                case SUM:
                    first = b != 0 ? 0 : first + a;
                    return first;
                case SINCE:
                    first = Math.min(a != 0 ? first + 1 : 0, p);
                    return first;
                default:
                    return 0;
            }
        }

        private int ramped(int a) {
            int step = Math.max(p, 0);
            // The way from one 32-bit value to another may need 33 bits.
            long way = (long) a - (long) output;
            if (Math.abs(way) <= step) {
                return a;
            }
            return way > 0 ? output + step : output - step;
        }

        private int counted(int a, int b) {
            if (b != 0) {
                first = 0;
            } else if (a != 0 && second == 0) {
                first++;
            }
            second = a;
            return first;
        }

        private int latched(int a, int b) {
            if (a != 0) {
                first = 1;
            } else if (b != 0) {
                first = 0;
            }
            return first;
        }

        private boolean isClockOn(int minute) {
            return p > q ? minute >= p || minute < q : minute >= p && minute < q;
        }

        private int pulsed(int a) {
            if (a != 0 && second == 0) {
                first = p;
            }
            second = a;
            if (first <= 0) {
                return 0;
            }
            first--;
            return 1;
        }
    }

    /** How many failures there were of each kind, and the facts of the latest ones. */
    private static final class Failures {
        static final int FACTS = 3;
        private static final int MOST_KEPT = 32;

        /** By kind; 0 stands for all kinds together. */
        final int[] totals = new int[NOTHING + 1];
        private final int[] ticks = new int[MOST_KEPT];
        private final int[] numbers = new int[MOST_KEPT];
        private final int[] kinds = new int[MOST_KEPT];
        private int next = 0;

        void note(int tick, int number, int kind) {
            ticks[next] = tick;
            numbers[next] = number;
            kinds[next] = kind;
            next = (next + 1) % MOST_KEPT;
            totals[0]++;
            totals[kind]++;
        }

        int keptCount() {
            return Math.min(totals[0], MOST_KEPT);
        }

        /** A fact (0 tick, 1 block, 2 kind) of the k-th latest failure. */
        int fact(int k, int what) {
            int slot = Math.floorMod(next - 1 - k, MOST_KEPT);
            return what == 0 ? ticks[slot] : what == 1 ? numbers[slot] : kinds[slot];
        }
    }

    /** Outputs and states of the blocks that there were, by their numbers. */
    private static final class Saving {
        private int count = 0;
        private final int[] kinds = new int[MOST_BLOCKS];
        private final int[] outputs = new int[MOST_BLOCKS];
        private final int[] firsts = new int[MOST_BLOCKS];
        private final int[] seconds = new int[MOST_BLOCKS];

        void keep(Block block) {
            if (count >= MOST_BLOCKS) {
                return;
            }
            kinds[count] = block.kind;
            outputs[count] = block.output;
            firsts[count] = block.first;
            seconds[count] = block.second;
            count++;
        }

        boolean restore(int number, Block block) {
            if (number < 0 || number >= count || kinds[number] != block.kind) {
                return false;
            }
            block.output = outputs[number];
            block.first = firsts[number];
            block.second = seconds[number];
            return true;
        }
    }
}
