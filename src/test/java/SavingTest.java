/** Promises 16 to 18: saved outputs and states, and blocks that become others. */
final class SavingTest {
    private SavingTest() {
    }

    static void run() {
        thereAreAtMostFiveSavings();
        outputsAndStatesComeBack();
        timeAndWhatWasToldStay();
        savingsAreApart();
        laterBlocksStay();
        blocksOfAnotherKindStay();
        aHandIsNotSaved();
        whatComesBackIsTheOutputBefore();
        wrongSavingsAreRefused();
        aBlockBecomesAnother();
        whatStaysWithABlockThatBecomes();
        wrongKindsAreRefused();
    }

    private static void thereAreAtMostFiveSavings() {
        BlockPrograms x = new BlockPrograms();
        for (int i = 0; i < 5; i++) {
            Check.same("saving " + i, i, x.save());
        }
        Check.refusesState("a sixth saving", () -> x.save());
        for (int i = 0; i < 5; i++) {
            Check.same("back(" + i + ") of no blocks", 0, x.back(i));
        }
        Check.refusesState("a sixth saving still", () -> x.save());
    }

    private static void outputsAndStatesComeBack() {
        Bench bench = new Bench(Kinds.COUNT);
        bench.tick(5, 0);
        Check.same("saved", 0, bench.program.save());
        bench.tick(0, 0);
        bench.tick(8, 0);
        Check.same("counted on", 2, bench.out());
        Check.same("back", 4, bench.program.back(0));
        Check.same("its output", 1, bench.out());
        Check.same("its first value", 1, bench.first());
        Check.same("its second value", 5, bench.second());
        Check.same("another's output", 5, bench.program.out(0));
        Check.same("it goes on from there", 1, bench.tick(8, 0));
        Check.same("back again", 4, bench.program.back(0));
        Check.same("its second value again", 5, bench.second());
    }

    private static void timeAndWhatWasToldStay() {
        Bench bench = new Bench(Kinds.NOT, "");
        bench.program.save();
        bench.tick(3);
        bench.program.wire(Bench.TESTED, 0, 0);
        bench.safe(17);
        bench.program.point(4, 6);
        bench.program.back(0);
        Check.same("output", 0, bench.program.out(0));
        Check.same("failures", 1, bench.program.failed(0));
        Check.same("safe value", 17, bench.program.safe(Bench.TESTED, 0));
        Check.same("wire", 0, bench.program.wire(Bench.TESTED, 0, 0));
        Check.same("point", 6, bench.program.point(4, 0));
        Check.same("time", 2, bench.program.run(1));
        Check.same("number", 3, bench.program.out(0));
    }

    private static void savingsAreApart() {
        BlockPrograms x = new BlockPrograms();
        x.block(Kinds.NUMBER);
        for (int i = 0; i < 5; i++) {
            x.numbers(0, 10 + i, 0);
            x.run(1);
            Check.same("saving " + i, i, x.save());
        }
        for (int i = 0; i < 5; i++) {
            Check.same("back(" + i + ")", 1, x.back(i));
            Check.same("output of saving " + i, 10 + i, x.out(0));
        }
    }

    private static void laterBlocksStay() {
        BlockPrograms x = new BlockPrograms();
        x.save();
        x.block(Kinds.NUMBER);
        x.numbers(0, 7, 0);
        x.run(1);
        x.save();
        x.block(Kinds.NUMBER);
        x.numbers(0, 8, 0);
        x.numbers(1, 9, 0);
        x.run(1);
        Check.same("of none", 0, x.back(0));
        Check.same("output 0 stays", 8, x.out(0));
        Check.same("of one", 1, x.back(1));
        Check.same("output 0 came back", 7, x.out(0));
        Check.same("output 1 stays", 9, x.out(1));
        BlockPrograms y = new BlockPrograms();
        y.save();
        y.block(Kinds.POINT);
        y.point(0, 6);
        y.run(1);
        Check.same("a later block of kind 0", 0, y.back(0));
        Check.same("its output stays", 6, y.out(0));
    }

    private static void blocksOfAnotherKindStay() {
        Bench bench = new Bench(Kinds.SUM);
        bench.tick(6, 0);
        bench.program.save();
        bench.program.become(Bench.TESTED, Kinds.SINCE);
        bench.numbers(50, 0).tick(1);
        Check.same("all but one", 3, bench.program.back(0));
        Check.same("its output stays", 1, bench.out());
        Check.same("its state stays", 1, bench.first());
        Check.same("another's comes back", 6, bench.program.out(0));
        bench.program.become(Bench.TESTED, Kinds.SUM);
        Check.same("a new SUM", 0, bench.out());
        Check.same("of the old kind again", 4, bench.program.back(0));
        Check.same("its output comes back", 6, bench.out());
        Check.same("its state comes back", 6, bench.first());
    }

    private static void aHandIsNotSaved() {
        Bench bench = new Bench(Kinds.SUM).hand(70);
        bench.tick(6, 0);
        bench.program.save();
        bench.release().tick(1, 0);
        Check.same("SUM", 7, bench.out());
        bench.program.back(0);
        Check.same("the hand's value comes back", 70, bench.out());
        Check.same("the state comes back", 6, bench.first());
        Check.same("the hand does not", 8, bench.tick(2, 0));
        bench.hand(71);
        bench.program.back(0);
        Check.same("nor goes it", true, bench.program.hand(Bench.TESTED, true, 71));
    }

    private static void whatComesBackIsTheOutputBefore() {
        Bench bench = new Bench(Kinds.RAMP).numbers(10, 0);
        bench.tick(100);
        bench.program.save();
        bench.tick(100);
        bench.tick(100);
        Check.same("a RAMP goes on", 30, bench.out());
        bench.program.back(0);
        Check.same("and from what came back", 20, bench.tick(100));
    }

    private static void wrongSavingsAreRefused() {
        BlockPrograms x = new BlockPrograms();
        Check.refusesArgument("back(0) of none", () -> x.back(0));
        x.save();
        Check.refusesArgument("back(-1)", () -> x.back(-1));
        Check.refusesArgument("back(1) of one", () -> x.back(1));
        Check.refusesArgument("back of the least", () -> x.back(Kinds.MIN));
        Check.refusesArgument("back of the greatest", () -> x.back(Kinds.MAX));
        Check.same("back(0) of one", 0, x.back(0));
    }

    private static void aBlockBecomesAnother() {
        Bench bench = new Bench(Kinds.COUNT);
        bench.tick(5, 0);
        Check.same("it was a COUNT", Kinds.COUNT, bench.program.become(Bench.TESTED, Kinds.SUM));
        Check.same("output", 0, bench.out());
        Check.same("first value", 0, bench.first());
        Check.same("second value", 0, bench.second());
        Check.same("it sums", 5, bench.tick(5, 0));
        Check.same("it was a SUM", Kinds.SUM, bench.program.become(Bench.TESTED, Kinds.SUM));
        Check.same("a new one of its own kind", 0, bench.out());
        Check.same("others stay", 5, bench.program.out(0));
        for (int kind = 0; kind <= 25; kind++) {
            bench.program.become(Bench.TESTED, kind);
            Check.same("it was " + kind, kind, bench.program.become(Bench.TESTED, kind));
        }
    }

    private static void whatStaysWithABlockThatBecomes() {
        Bench bench = new Bench(Kinds.ROW).numbers(3, 9).safe(44).hand(66);
        bench.program.row(Bench.TESTED, 2, 20);
        bench.program.wire(Bench.TESTED, 1, 1);
        bench.program.become(Bench.TESTED, Kinds.LIMIT);
        Check.same("its hand stays, the output waits", 0, bench.out());
        Check.same("its hand's value stays", 66, bench.tick(5));
        Check.same("in hand", true, bench.program.hand(Bench.TESTED, false, 0));
        Check.same("its wire stays", 5, bench.tick(5));
        Check.same("its p stays", 3, bench.tick(2));
        Check.same("its q stays", 9, bench.tick(10));
        bench.program.become(Bench.TESTED, Kinds.CHOICE);
        Check.same("its safe value stays", 44, bench.tick(1));
        bench.program.become(Bench.TESTED, Kinds.ADD);
        Check.same("a wire that the kind before did not name", 7, bench.tick(3, 4));
        bench.program.become(Bench.TESTED, Kinds.ROW);
        Check.same("its row stays", 20, bench.tick(2));
        Check.same("its row's number stays", 20, bench.program.row(Bench.TESTED, 2, 0));
    }

    private static void wrongKindsAreRefused() {
        BlockPrograms x = new BlockPrograms();
        x.block(Kinds.NUMBER);
        x.numbers(0, 5, 0);
        x.run(1);
        Check.refusesArgument("become(0, -1)", () -> x.become(0, -1));
        Check.refusesArgument("become(0, 26)", () -> x.become(0, 26));
        Check.refusesArgument("become(-1, 0)", () -> x.become(-1, 0));
        Check.refusesArgument("become(1, 0)", () -> x.become(1, 0));
        Check.same("a refused one changes nothing", 5, x.out(0));
        Check.same("nor the kind", Kinds.NUMBER, x.become(0, 0));
    }
}
