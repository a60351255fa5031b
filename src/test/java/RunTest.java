/** Promises 11 to 13: ticks, outputs, states. */
final class RunTest {
    private RunTest() {
    }

    static void run() {
        ticksAddToTheTime();
        timeEndsAt3000();
        aRingRefusesTicks();
        aWrongNumberComesBeforeARingAndTheEnd();
        eachTickIsReckoned();
        outputsAreOfBlocks();
        statesAreOfBlocks();
    }

    private static void ticksAddToTheTime() {
        BlockPrograms x = new BlockPrograms();
        Check.same("run(1)", 1, x.run(1));
        Check.same("run(499)", 500, x.run(499));
        Check.same("run(500)", 1000, x.run(500));
        Check.refusesArgument("run(0)", () -> x.run(0));
        Check.refusesArgument("run(501)", () -> x.run(501));
        Check.refusesArgument("run(-1)", () -> x.run(-1));
        Check.refusesArgument("run of the least", () -> x.run(Kinds.MIN));
        Check.refusesArgument("run of the greatest", () -> x.run(Kinds.MAX));
        Check.same("refused runs take no time", 1001, x.run(1));
    }

    private static void timeEndsAt3000() {
        BlockPrograms x = new BlockPrograms();
        x.block(Kinds.SINCE);
        x.block(Kinds.NUMBER);
        x.numbers(0, 5000, 0);
        x.numbers(1, 1, 0);
        x.wire(0, 0, 1);
        for (int i = 1; i <= 5; i++) {
            Check.same("run(500)", i * 500, x.run(500));
        }
        Check.same("run(499)", 2999, x.run(499));
        Check.refusesState("3001", () -> x.run(2));
        Check.same("a refused run runs no tick", 2999, x.out(0));
        Check.same("3000", 3000, x.run(1));
        Check.same("3000 ticks", 3000, x.out(0));
        Check.refusesState("3001 again", () -> x.run(1));
        Check.same("still 3000 ticks", 3000, x.out(0));
    }

    private static void aRingRefusesTicks() {
        BlockPrograms x = new BlockPrograms();
        x.block(Kinds.NUMBER);
        x.block(Kinds.NOT);
        x.numbers(0, 7, 0);
        x.wire(1, 0, 1);
        Check.refusesState("a ring", () -> x.run(1));
        Check.same("nothing ran", 0, x.out(0));
        x.wire(1, 0, 0);
        Check.same("the ring opened", 1, x.run(1));
        Check.same("all ran", 7, x.out(0));
    }

    private static void aWrongNumberComesBeforeARingAndTheEnd() {
        BlockPrograms x = new BlockPrograms();
        for (int i = 0; i < 6; i++) {
            x.run(500);
        }
        Check.refusesArgument("run(0) at the end", () -> x.run(0));
        Check.refusesArgument("run(501) at the end", () -> x.run(501));
        BlockPrograms y = new BlockPrograms();
        y.block(Kinds.NOT);
        y.wire(0, 0, 0);
        Check.refusesArgument("run(0) in a ring", () -> y.run(0));
        Check.refusesArgument("run(501) in a ring", () -> y.run(501));
    }

    private static void eachTickIsReckoned() {
        BlockPrograms x = new BlockPrograms();
        x.block(Kinds.SUM);
        x.block(Kinds.NUMBER);
        x.block(Kinds.NUMBER);
        x.numbers(1, 3, 0);
        x.wire(0, 0, 1);
        x.wire(0, 1, 2);
        x.run(100);
        Check.same("a hundred times 3", 300, x.out(0));
    }

    private static void outputsAreOfBlocks() {
        BlockPrograms x = new BlockPrograms();
        x.block(Kinds.NUMBER);
        x.block(Kinds.NUMBER);
        x.numbers(0, 4, 0);
        x.numbers(1, 5, 0);
        Check.same("before a tick", 0, x.out(0));
        x.run(1);
        Check.same("out(0)", 4, x.out(0));
        Check.same("out(1)", 5, x.out(1));
        Check.refusesArgument("out(-1)", () -> x.out(-1));
        Check.refusesArgument("out(2)", () -> x.out(2));
        Check.refusesArgument("out of the least", () -> x.out(Kinds.MIN));
        Check.refusesArgument("out of the greatest", () -> x.out(Kinds.MAX));
    }

    private static void statesAreOfBlocks() {
        Bench bench = new Bench(Kinds.COUNT);
        bench.tick(9, 0);
        BlockPrograms x = bench.program;
        Check.same("the first value", 1, x.state(3, 0));
        Check.same("the second value", 9, x.state(3, 1));
        Check.same("of one without", 0, x.state(0, 0));
        Check.same("of one without, second", 0, x.state(0, 1));
        Check.refusesArgument("state(3, -1)", () -> x.state(3, -1));
        Check.refusesArgument("state(3, 2)", () -> x.state(3, 2));
        Check.refusesArgument("state(-1, 0)", () -> x.state(-1, 0));
        Check.refusesArgument("state(4, 0)", () -> x.state(4, 0));
    }
}
