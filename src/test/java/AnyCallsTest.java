/** Runs of 512 calls with any arguments: nothing but the exceptions of the face ever comes out. */
final class AnyCallsTest {
    private static final int[] EDGES = {
        Kinds.MIN, -2, -1, 0, 1, 2, 3, 7, 8, 9, 10, 25, 26, 31, 32, 39, 40, 500, 501, 1440, Kinds.MAX
    };
    private static final String ARGUMENT = "IllegalArgumentException";
    private static final String STATE = "IllegalStateException";

    private long seed;
    private final BlockPrograms program = new BlockPrograms();

    private AnyCallsTest(long seed) {
        this.seed = seed;
    }

    static void run() {
        for (int i = 1; i <= 300; i++) {
            new AnyCallsTest(i).calls();
        }
    }

    private void calls() {
        boolean asDue = true;
        for (int i = 0; i < 512 && asDue; i++) {
            int which = below(17);
            int a = below(3) == 0 ? edge() : below(40);
            int b = below(3) == 0 ? edge() : below(8);
            int c = below(3) == 0 ? edge() : below(60) - 10;
            String outcome = Check.outcome(() -> call(which, a, b, c));
            asDue = outcome.equals("nothing")
                || outcome.equals(ARGUMENT) && which != 8 && which != 15
                || outcome.equals(STATE) && (which == 0 || which == 3 || which == 10 || which == 15);
            if (!asDue) {
                Check.same("call " + which + " with " + a + ", " + b + ", " + c, "an exception of the face", outcome);
            }
        }
        Check.same("any calls", true, asDue);
    }

    private void call(int which, int a, int b, int c) {
        switch (which) {
            case 0: program.block(a % 26); break;
            case 1: program.wire(a, b % 3, c); break;
            case 2: program.numbers(a, b, c); break;
            case 3: program.row(a, b, c); break;
            case 4: program.safe(a, c); break;
            case 5: program.point(b, c); break;
            case 6: program.hand(a, c > 0, b); break;
            case 7: program.at(a); break;
            case 8: program.order(); break;
            case 9: program.out(a); break;
            case 10: program.run(a); break;
            case 11: program.state(a, b % 3); break;
            case 12: program.failed(b); break;
            case 13: program.failure(a, b % 4); break;
            case 14: program.back(b); break;
            case 15: program.save(); break;
            default: program.become(a, c); break;
        }
    }

    private int edge() {
        return EDGES[below(EDGES.length)];
    }

    private int below(int bound) {
        seed = seed * 6364136223846793005L + 1442695040888963407L;
        return (int) ((seed >>> 33) % bound);
    }
}
