/** Promises 14 and 15: how many failures there were, and which were the latest. */
final class FailuresTest {
    private FailuresTest() {
    }

    static void run() {
        failuresAreCountedByKind();
        aFailureTellsTickBlockAndKind();
        theLatest32AreKept();
        failuresComeInTheOrderOfTheTick();
        failuresStayThroughOtherCalls();
    }

    /** 0 NUMBER 1, 1 NUMBER 0, 2 OVER (ZERO), 3 POINT 10 (BAD), 4 NOT unwired (NOTHING). */
    private static BlockPrograms failing() {
        BlockPrograms x = new BlockPrograms();
        x.block(Kinds.NUMBER);
        x.block(Kinds.NUMBER);
        x.block(Kinds.OVER);
        x.block(Kinds.POINT);
        x.block(Kinds.NOT);
        x.numbers(0, 1, 0);
        x.wire(2, 0, 0);
        x.wire(2, 1, 1);
        x.numbers(3, 10, 0);
        return x;
    }

    private static void failuresAreCountedByKind() {
        BlockPrograms x = failing();
        for (int kind = 0; kind <= 3; kind++) {
            Check.same("failed(" + kind + ") at first", 0, x.failed(kind));
        }
        x.run(2);
        Check.same("ZERO", 2, x.failed(Kinds.ZERO));
        Check.same("BAD", 2, x.failed(Kinds.BAD));
        Check.same("NOTHING", 2, x.failed(Kinds.NOTHING));
        Check.same("all", 6, x.failed(0));
        x.wire(2, 1, 0);
        x.run(1);
        Check.same("ZERO no more", 2, x.failed(Kinds.ZERO));
        x.numbers(3, 9, 0);
        x.run(1);
        Check.same("BAD no more", 3, x.failed(Kinds.BAD));
        Check.same("NOTHING still", 4, x.failed(Kinds.NOTHING));
        Check.same("all then", 9, x.failed(0));
        Check.refusesArgument("failed(-1)", () -> x.failed(-1));
        Check.refusesArgument("failed(4)", () -> x.failed(4));
    }

    private static void aFailureTellsTickBlockAndKind() {
        BlockPrograms x = failing();
        x.run(1);
        x.numbers(3, 0, 0);
        x.run(1);
        failure(x, 0, 2, 4, Kinds.NOTHING);
        failure(x, 1, 2, 2, Kinds.ZERO);
        failure(x, 2, 1, 4, Kinds.NOTHING);
        failure(x, 3, 1, 3, Kinds.BAD);
        failure(x, 4, 1, 2, Kinds.ZERO);
        Check.refusesArgument("failure(5, 0) of five", () -> x.failure(5, 0));
        Check.refusesArgument("failure(-1, 0)", () -> x.failure(-1, 0));
        Check.refusesArgument("failure(0, -1)", () -> x.failure(0, -1));
        Check.refusesArgument("failure(0, 3)", () -> x.failure(0, 3));
        Check.refusesArgument("failure of the least", () -> x.failure(Kinds.MIN, 0));
        Check.refusesArgument("failure of the greatest", () -> x.failure(Kinds.MAX, 0));
    }

    private static void theLatest32AreKept() {
        BlockPrograms x = new BlockPrograms();
        x.block(Kinds.NOT);
        x.run(31);
        failure(x, 30, 1, 0, Kinds.NOTHING);
        Check.refusesArgument("failure(31, 0) of 31", () -> x.failure(31, 0));
        x.run(1);
        failure(x, 31, 1, 0, Kinds.NOTHING);
        Check.refusesArgument("failure(32, 0) of 32", () -> x.failure(32, 0));
        x.run(1);
        failure(x, 0, 33, 0, Kinds.NOTHING);
        failure(x, 31, 2, 0, Kinds.NOTHING);
        Check.refusesArgument("failure(32, 0) of 33", () -> x.failure(32, 0));
        x.run(500);
        failure(x, 0, 533, 0, Kinds.NOTHING);
        failure(x, 31, 502, 0, Kinds.NOTHING);
        Check.same("all are counted", 533, x.failed(0));
    }

    private static void failuresComeInTheOrderOfTheTick() {
        BlockPrograms x = new BlockPrograms();
        x.block(Kinds.DELAY);
        x.block(Kinds.OVER);
        x.block(Kinds.NOT);
        x.block(Kinds.DELAY);
        x.wire(1, 0, 2);
        x.wire(1, 1, 0);
        x.run(1);
        // In the order 2 comes before 1; DELAYs fail behind all others, by their numbers.
        failure(x, 3, 1, 2, Kinds.NOTHING);
        failure(x, 2, 1, 1, Kinds.ZERO);
        failure(x, 1, 1, 0, Kinds.NOTHING);
        failure(x, 0, 1, 3, Kinds.NOTHING);
        Check.same("a DELAY fails once a tick", 4, x.failed(0));
    }

    private static void failuresStayThroughOtherCalls() {
        BlockPrograms x = failing();
        x.save();
        x.run(1);
        x.back(0);
        x.become(4, Kinds.NUMBER);
        Check.same("not taken back", 3, x.failed(0));
        failure(x, 0, 1, 4, Kinds.NOTHING);
        x.wire(4, 0, 0);
        failure(x, 0, 1, 4, Kinds.NOTHING);
    }

    private static void failure(BlockPrograms x, int k, int tick, int block, int kind) {
        Check.same("failure(" + k + ", 0)", tick, x.failure(k, 0));
        Check.same("failure(" + k + ", 1)", block, x.failure(k, 1));
        Check.same("failure(" + k + ", 2)", kind, x.failure(k, 2));
    }
}
