/** Runs of 512 calls with any arguments: the program answers each as the model does. */
final class ModelTest {
    private static final int RUNS = 1500;
    private static final int CALLS = 512;
    /** Values at which kinds, rows, points, clocks and 32 bits turn. */
    private static final int[] EDGES = {
        Kinds.MIN, Kinds.MIN + 1, -1440, -10, -3, -2, -1, 0, 0, 0, 1, 1, 2, 3, 4, 5, 6, 7, 8, 9, 10, 100, 1438, 1439,
        1440, 65536, Kinds.MAX - 1, Kinds.MAX
    };
    private static final int[] WRONG = {Kinds.MIN, -2, -1, 3, 8, 10, 26, 32, 40, 500, 501, Kinds.MAX};

    private final BlockPrograms program = new BlockPrograms();
    private final Model model = new Model();
    private final int mostBlocks;
    private long seed;
    private int blocks = 0;

    private ModelTest(int number) {
        seed = number * 7919L;
        mostBlocks = number % 10 == 0 ? 41 : 3 + number % 12;
    }

    static void run() {
        for (int i = 1; i <= RUNS; i++) {
            new ModelTest(i).calls();
        }
    }

    private void calls() {
        StringBuilder story = new StringBuilder();
        for (int i = 0; i < CALLS; i++) {
            int which = i < mostBlocks ? 0 : nextCall();
            int a = argument(which, 0);
            int b = argument(which, 1);
            int c = argument(which, 2);
            String due = answer(false, which, a, b, c);
            String got = answer(true, which, a, b, c);
            story.append(which).append('(').append(a).append(' ').append(b).append(' ').append(c).append(") ");
            if (!due.equals(got)) {
                Check.same(story.toString(), due, got);
                return;
            }
            if (which == 0 && due.equals(String.valueOf(blocks))) {
                blocks++;
            }
        }
        Check.same("as the model", true, true);
    }

    /** Wires, ticks and looks come more often than the rest. */
    private int nextCall() {
        int[] often = {1, 1, 1, 2, 2, 3, 4, 5, 6, 6, 7, 8, 10, 10, 10, 9, 9, 9, 9, 11, 11, 11, 12, 13, 14, 15, 16, 0};
        return often[below(often.length)];
    }

    private int argument(int which, int place) {
        if (below(25) == 0) {
            return WRONG[below(WRONG.length)];
        }
        String role = ROLES[which];
        switch (role.charAt(place)) {
            case 'b': return below(Math.max(blocks, 1));
            case 'w': return below(4) == 0 ? -1 : below(Math.max(blocks, 1));
            case 'i': return below(3);
            case 'k': return below(6) == 0 ? Kinds.ROW : below(26);
            case 'r': return below(8);
            case 'p': return below(10);
            case 'n': return below(6) == 0 ? 1 + below(500) : 1 + below(3);
            case 's': return below(2);
            case 'f': return below(4);
            case 'l': return below(33);
            case 'm': return below(5);
            default: return EDGES[below(EDGES.length)];
        }
    }

    /** What each call's arguments are: b a block, w a wire's end, i an input, k a kind, v a value ... */
    private static final String[] ROLES = {
        "kvv", "biw", "bvv", "brv", "bvv", "pvv", "bsv", "vvv", "bvv", "bvv", "nvv", "bsv", "fvv", "lfv", "mvv",
        "vvv", "bkv"
    };

    private String answer(boolean ofProgram, int which, int a, int b, int c) {
        try {
            return String.valueOf(ofProgram ? ask(program, which, a, b, c) : ask(model, which, a, b, c));
        } catch (IllegalArgumentException e) {
            return "illegal argument";
        } catch (IllegalStateException e) {
            return "illegal state";
        }
    }

    private static int ask(BlockPrograms x, int which, int a, int b, int c) {
        switch (which) {
            case 0: return x.block(a);
            case 1: return x.wire(a, b, c);
            case 2: x.numbers(a, b, c); return 0;
            case 3: return x.row(a, b, c);
            case 4: return x.safe(a, b);
            case 5: return x.point(a, b);
            case 6: return x.hand(a, b > 0, c) ? 1 : 0;
            case 7: return x.order();
            case 8: return x.at(a);
            case 9: return x.out(a);
            case 10: return x.run(a);
            case 11: return x.state(a, b);
            case 12: return x.failed(a);
            case 13: return x.failure(a, b);
            case 14: return x.back(a);
            case 15: return x.save();
            default: return x.become(a, b);
        }
    }

    private static int ask(Model x, int which, int a, int b, int c) {
        switch (which) {
            case 0: return x.block(a);
            case 1: return x.wire(a, b, c);
            case 2: x.numbers(a, b, c); return 0;
            case 3: return x.row(a, b, c);
            case 4: return x.safe(a, b);
            case 5: return x.point(a, b);
            case 6: return x.hand(a, b > 0, c) ? 1 : 0;
            case 7: return x.order();
            case 8: return x.at(a);
            case 9: return x.out(a);
            case 10: return x.run(a);
            case 11: return x.state(a, b);
            case 12: return x.failed(a);
            case 13: return x.failure(a, b);
            case 14: return x.back(a);
            case 15: return x.save();
            default: return x.become(a, b);
        }
    }

    private int below(int bound) {
        seed = seed * 6364136223846793005L + 1442695040888963407L;
        return (int) ((seed >>> 33) % bound);
    }
}
