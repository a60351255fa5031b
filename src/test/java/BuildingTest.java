/** Promises 1 to 8: a new object, blocks, wires, numbers, rows, safe values, points, hands. */
final class BuildingTest {
    private BuildingTest() {
    }

    static void run() {
        aNewObjectHasNoBlocks();
        blocksAreNumberedAsTheyCome();
        thereAreAtMostFortyBlocks();
        wiresAnswerWhatWas();
        aBlockMayBeWiredToItselfAndToNone();
        aWireIsWhatTheBlockReads();
        numbersAreTheBlocks();
        rowsAnswerWhatWas();
        safeValuesAnswerWhatWas();
        pointsAnswerWhatWas();
        handsAnswerWhetherThereWas();
        aHandShowsFromTheNextTickOn();
        objectsShareNothing();
    }

    private static void aNewObjectHasNoBlocks() {
        BlockPrograms x = new BlockPrograms();
        Check.same("order of no blocks", 0, x.order());
        Check.refusesArgument("at(0) of no blocks", () -> x.at(0));
        Check.refusesArgument("out(0) of no blocks", () -> x.out(0));
        Check.refusesArgument("state(0, 0) of no blocks", () -> x.state(0, 0));
        Check.refusesArgument("wire of no blocks", () -> x.wire(0, 0, Kinds.NONE));
        Check.same("failures at first", 0, x.failed(0));
        Check.refusesArgument("failure(0, 0) at first", () -> x.failure(0, 0));
        Check.refusesArgument("back(0) at first", () -> x.back(0));
        for (int i = 0; i < 10; i++) {
            Check.same("point " + i + " at first", 0, x.point(i, 0));
        }
        Check.same("time at first", 1, x.run(1));
    }

    private static void blocksAreNumberedAsTheyCome() {
        BlockPrograms x = new BlockPrograms();
        for (int kind = 0; kind <= 25; kind++) {
            Check.same("block of kind " + kind, kind, x.block(kind));
            Check.same("its output at first", 0, x.out(kind));
            Check.same("its first value at first", 0, x.state(kind, 0));
            Check.same("its second value at first", 0, x.state(kind, 1));
            Check.same("its safe value at first", 0, x.safe(kind, 0));
            Check.same("its hand at first", false, x.hand(kind, false, 0));
            Check.same("its kind", kind, x.become(kind, kind));
        }
        Check.refusesArgument("kind -1", () -> x.block(-1));
        Check.refusesArgument("kind 26", () -> x.block(26));
        Check.refusesArgument("the least kind", () -> x.block(Kinds.MIN));
        Check.refusesArgument("the greatest kind", () -> x.block(Kinds.MAX));
        Check.same("a refused block takes no number", 26, x.block(0));
    }

    private static void thereAreAtMostFortyBlocks() {
        BlockPrograms x = new BlockPrograms();
        for (int i = 0; i < 40; i++) {
            Check.same("block " + i, i, x.block(Kinds.NUMBER));
        }
        Check.refusesState("block 40", () -> x.block(Kinds.NUMBER));
        Check.refusesArgument("a wrong kind comes before 40 blocks", () -> x.block(26));
        Check.same("order of 40", 40, x.order());
        Check.same("the last is there", 0, x.out(39));
        Check.refusesArgument("the one behind is not", () -> x.out(40));
    }

    private static void wiresAnswerWhatWas() {
        BlockPrograms x = three();
        for (int input = 0; input < 3; input++) {
            Check.same("input " + input + " at first", -1, x.wire(2, input, 0));
            Check.same("input " + input + " then", 0, x.wire(2, input, 1));
            Check.same("input " + input + " at last", 1, x.wire(2, input, Kinds.NONE));
            Check.same("input " + input + " unwired", -1, x.wire(2, input, Kinds.NONE));
        }
        x.wire(2, 0, 0);
        x.wire(2, 1, 1);
        Check.same("inputs are apart: 2", -1, x.wire(2, 2, 0));
        Check.same("inputs are apart: 1", 1, x.wire(2, 1, 1));
        Check.same("inputs are apart: 0", 0, x.wire(2, 0, 0));
        Check.refusesArgument("wire of block -1", () -> x.wire(-1, 0, 0));
        Check.refusesArgument("wire of block 3", () -> x.wire(3, 0, 0));
        Check.refusesArgument("input -1", () -> x.wire(2, -1, 0));
        Check.refusesArgument("input 3", () -> x.wire(2, 3, 0));
        Check.refusesArgument("wire to block -2", () -> x.wire(2, 0, -2));
        Check.refusesArgument("wire to block 3", () -> x.wire(2, 0, 3));
        Check.same("a refused wire changes nothing", 0, x.wire(2, 0, 0));
    }

    private static void aBlockMayBeWiredToItselfAndToNone() {
        BlockPrograms x = three();
        Check.same("wired to itself", -1, x.wire(2, 0, 2));
        Check.same("so it is", 2, x.wire(2, 0, Kinds.NONE));
        Check.same("wired to the last", -1, x.wire(0, 0, 2));
        Check.same("so it is", 2, x.wire(0, 0, -1));
    }

    private static void aWireIsWhatTheBlockReads() {
        BlockPrograms x = three();
        x.numbers(0, 10, 0);
        x.numbers(1, 3, 0);
        x.wire(2, 0, 0);
        x.wire(2, 1, 1);
        x.run(1);
        Check.same("10 less 3", 7, x.out(2));
        x.wire(2, 0, 1);
        x.wire(2, 1, 0);
        x.run(1);
        Check.same("3 less 10", -7, x.out(2));
        x.wire(2, 1, 1);
        x.run(1);
        Check.same("both inputs to one block", 0, x.out(2));
    }

    private static void numbersAreTheBlocks() {
        BlockPrograms x = new BlockPrograms();
        x.block(Kinds.NUMBER);
        x.block(Kinds.LIMIT);
        x.run(1);
        Check.same("p at first", 0, x.out(0));
        x.wire(1, 0, 0);
        x.numbers(0, 7, 0);
        x.run(1);
        Check.same("p", 7, x.out(0));
        Check.same("q at first", 0, x.out(1));
        x.numbers(1, -5, 6);
        x.run(1);
        Check.same("q", 6, x.out(1));
        x.numbers(0, -9, 0);
        x.run(1);
        Check.same("p of the other", -5, x.out(1));
        x.numbers(0, Kinds.MIN, Kinds.MAX);
        x.run(1);
        Check.same("the least p", Kinds.MIN, x.out(0));
        Check.refusesArgument("numbers of block -1", () -> x.numbers(-1, 1, 1));
        Check.refusesArgument("numbers of block 2", () -> x.numbers(2, 1, 1));
    }

    private static void rowsAnswerWhatWas() {
        BlockPrograms x = three();
        x.become(1, Kinds.ROW);
        for (int k = 0; k < 8; k++) {
            Check.same("row " + k + " at first", 0, x.row(1, k, 100 + k));
        }
        for (int k = 0; k < 8; k++) {
            Check.same("row " + k + " then", 100 + k, x.row(1, k, Kinds.MIN));
        }
        Check.refusesArgument("row of block -1", () -> x.row(-1, 0, 0));
        Check.refusesArgument("row of block 3", () -> x.row(3, 0, 0));
        Check.refusesArgument("row, place -1", () -> x.row(1, -1, 0));
        Check.refusesArgument("row, place 8", () -> x.row(1, 8, 0));
        Check.refusesState("row of no ROW", () -> x.row(0, 0, 0));
        Check.refusesArgument("a wrong place comes before no ROW", () -> x.row(0, 8, 0));
        Check.refusesArgument("place -1 comes before no ROW", () -> x.row(0, -1, 0));
        x.become(1, Kinds.NUMBER);
        Check.refusesState("row of a ROW that was", () -> x.row(1, 0, 5));
        x.become(1, Kinds.ROW);
        Check.same("a refused row changes nothing", Kinds.MIN, x.row(1, 0, 0));
    }

    private static void safeValuesAnswerWhatWas() {
        BlockPrograms x = three();
        Check.same("safe value at first", 0, x.safe(2, 5));
        Check.same("safe value then", 5, x.safe(2, Kinds.MIN));
        Check.same("safe values are apart", 0, x.safe(1, 9));
        x.run(1);
        Check.same("the safe value is said", Kinds.MIN, x.out(2));
        Check.same("one that can reckon says no safe value", 0, x.out(1));
        x.safe(2, 6);
        Check.same("a new safe value waits for the tick", Kinds.MIN, x.out(2));
        x.run(1);
        Check.same("then it is said", 6, x.out(2));
        Check.refusesArgument("safe of block -1", () -> x.safe(-1, 0));
        Check.refusesArgument("safe of block 3", () -> x.safe(3, 0));
    }

    private static void pointsAnswerWhatWas() {
        BlockPrograms x = new BlockPrograms();
        for (int i = 0; i < 10; i++) {
            Check.same("point " + i + " at first", 0, x.point(i, i + 1));
        }
        for (int i = 0; i < 10; i++) {
            Check.same("point " + i + " then", i + 1, x.point(i, Kinds.MAX));
        }
        Check.refusesArgument("point -1", () -> x.point(-1, 0));
        Check.refusesArgument("point 10", () -> x.point(10, 0));
        x.block(Kinds.POINT);
        x.point(0, 4);
        Check.same("a point's value waits for the tick", 0, x.out(0));
        x.run(1);
        Check.same("then it is said", 4, x.out(0));
    }

    private static void handsAnswerWhetherThereWas() {
        BlockPrograms x = three();
        Check.same("in hand at first", false, x.hand(0, true, 5));
        Check.same("in hand then", true, x.hand(0, true, 6));
        Check.same("in hand still", true, x.hand(0, false, 7));
        Check.same("in hand no more", false, x.hand(0, false, 8));
        Check.same("hands are apart", false, x.hand(1, true, 5));
        Check.refusesArgument("hand of block -1", () -> x.hand(-1, true, 0));
        Check.refusesArgument("hand of block 3", () -> x.hand(3, true, 0));
        Check.refusesArgument("no hand of block 3", () -> x.hand(3, false, 0));
    }

    private static void aHandShowsFromTheNextTickOn() {
        BlockPrograms x = three();
        x.numbers(0, 10, 0);
        x.wire(2, 0, 0);
        x.wire(2, 1, 1);
        x.run(1);
        x.hand(0, true, 55);
        Check.same("before the tick", 10, x.out(0));
        x.run(1);
        Check.same("the hand's value", 55, x.out(0));
        Check.same("those behind it read the hand's value", 55, x.out(2));
        x.hand(0, true, Kinds.MIN);
        x.run(1);
        Check.same("another hand's value", Kinds.MIN, x.out(0));
        x.hand(0, false, 99);
        Check.same("the hand goes, the output stays", Kinds.MIN, x.out(0));
        x.run(1);
        Check.same("then the block's own", 10, x.out(0));
    }

    private static void objectsShareNothing() {
        BlockPrograms x = three();
        BlockPrograms y = new BlockPrograms();
        x.point(0, 5);
        x.run(1);
        Check.same("another object's blocks", 0, y.order());
        Check.same("another object's point", 0, y.point(0, 0));
        Check.same("another object's time", 1, y.run(1));
        Check.same("another object's failures", 0, y.failed(0));
    }

    /** Two NUMBERS and a LESS BY that is not wired yet. */
    private static BlockPrograms three() {
        BlockPrograms x = new BlockPrograms();
        x.block(Kinds.NUMBER);
        x.block(Kinds.NUMBER);
        x.block(Kinds.LESS_BY);
        return x;
    }
}
