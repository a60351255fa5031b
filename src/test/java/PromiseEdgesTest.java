/**
 * Promises 1 to 18, sentence by sentence: each method stands for the promise that it names and tries the boundary
 * cases of its sentences alone: the last good value and the first wrong one on each side, empty and full, refused.
 */
final class PromiseEdgesTest {
    private static final int MIN = Kinds.MIN;
    private static final int MAX = Kinds.MAX;
    private static final int NONE = Kinds.NONE;

    private PromiseEdgesTest() {
    }

    static void run() {
        promise1NoBlocks();
        promise2AKindIs0To25();
        promise2ThereAre40();
        promise3ABlockAlsoItself();
        promise3OrNone();
        promise3ToWhichItWas();
        promise3IllegalArgument();
        promise4TheTwoNumbers();
        promise5ANumberOfTheRow();
        promise5ItIsNoRow();
        promise6WhatItWas();
        promise7WhatItWas();
        promise8WhetherItWas();
        promise9AllIfThereIsNoRing();
        promise10TheKthBlock();
        promise10ThoseThatCannotCome();
        promise11NIsNot1To500();
        promise11ThereIsARing();
        promise11TimeWouldBeAbove3000();
        promise12ABlocksOutput();
        promise13FirstAndSecond();
        promise14Of1To3OrAll();
        promise15TheLatest32AreKept();
        promise15ThereIsNoneSuch();
        promise16UnderWhichNumber();
        promise16ThereAre5();
        promise17BlocksThatWereThere();
        promise17TheKindThatTheyHave();
        promise17ThereIsNoSuchSaving();
        promise18OutputAndState0();
        promise18WiresNumbersSafeRowHandStay();
        promise18IllegalArgument();
    }

    /** "No blocks." */
    private static void promise1NoBlocks() {
        BlockPrograms x = new BlockPrograms();
        Check.refusesArgument("block 0", () -> x.out(0));
        Check.same("order", 0, x.order());
        Check.refusesArgument("at(0)", () -> x.at(0));
        Check.same("a tick of none", 1, x.run(1));
        Check.same("a tick of none fails not", 0, x.failed(0));
        Check.same("a saving of none", 0, x.save());
        Check.same("which brings back none", 0, x.back(0));
        Check.same("the first block", 0, x.block(0));
    }

    /** "A block of a kind (0 .. 25): its number. Illegal argument" */
    private static void promise2AKindIs0To25() {
        BlockPrograms x = new BlockPrograms();
        Check.refusesArgument("kind -1", () -> x.block(-1));
        Check.refusesArgument("kind 26", () -> x.block(26));
        Check.refusesArgument("the least kind", () -> x.block(MIN));
        Check.refusesArgument("the greatest kind", () -> x.block(MAX));
        Check.same("a refused call makes no block", 0, x.order());
        Check.same("kind 0", 0, x.block(0));
        Check.same("kind 25", 1, x.block(25));
        Check.same("two blocks", 2, x.order());
        Check.same("it is of kind 25", 25, x.become(1, 0));
    }

    /** "illegal state: there are 40." */
    private static void promise2ThereAre40() {
        BlockPrograms x = new BlockPrograms();
        for (int i = 0; i < 39; i++) {
            x.block(i % 26);
        }
        Check.same("the 40th", 39, x.block(25));
        Check.refusesState("the 41st", () -> x.block(0));
        Check.refusesState("the 41st again", () -> x.block(25));
        Check.same("40 stay", 40, x.order());
        Check.same("the last stays", 25, x.become(39, 0));
        Check.refusesState("none becomes free", () -> x.block(0));
    }

    /** "An input of a block is wired to a block (also to itself)" */
    private static void promise3ABlockAlsoItself() {
        BlockPrograms x = blocks(40, Kinds.NUMBER);
        Check.same("to itself", NONE, x.wire(0, 0, 0));
        Check.same("so it was", 0, x.wire(0, 0, 39));
        Check.same("to the last", 39, x.wire(0, 0, 1));
        Check.same("the last to itself", NONE, x.wire(39, 2, 39));
        Check.same("so it was", 39, x.wire(39, 2, 0));
        Check.same("to the first", 0, x.wire(39, 2, 0));
    }

    /** "or to none (NONE)" */
    private static void promise3OrNone() {
        Bench bench = new Bench(Kinds.NOT).safe(-7);
        Check.same("wired", 1, bench.tick(0));
        Check.same("to none", 0, bench.program.wire(Bench.TESTED, 0, NONE));
        Check.same("then it reads none", -7, bench.tick(0));
        Check.same("none is none", NONE, bench.program.wire(Bench.TESTED, 0, -1));
    }

    /** "to which it was" */
    private static void promise3ToWhichItWas() {
        BlockPrograms x = blocks(3, Kinds.CHOICE);
        for (int block = 0; block < 3; block++) {
            for (int input = 0; input < 3; input++) {
                Check.same("at first", NONE, x.wire(block, input, (block + input) % 3));
            }
        }
        for (int block = 0; block < 3; block++) {
            for (int input = 0; input < 3; input++) {
                Check.same("then", (block + input) % 3, x.wire(block, input, NONE));
                Check.same("at last", NONE, x.wire(block, input, NONE));
            }
        }
    }

    /** "Illegal argument." */
    private static void promise3IllegalArgument() {
        BlockPrograms x = blocks(2, Kinds.NOT);
        x.wire(1, 0, 0);
        Check.refusesArgument("block -1", () -> x.wire(-1, 0, 0));
        Check.refusesArgument("block 2", () -> x.wire(2, 0, 0));
        Check.refusesArgument("input -1", () -> x.wire(1, -1, 1));
        Check.refusesArgument("input 3", () -> x.wire(1, 3, 1));
        Check.refusesArgument("to -2", () -> x.wire(1, 0, -2));
        Check.refusesArgument("to 2", () -> x.wire(1, 0, 2));
        Check.refusesArgument("to the least", () -> x.wire(1, 0, MIN));
        Check.refusesArgument("to the greatest", () -> x.wire(1, 0, MAX));
        Check.same("the wire stays", 0, x.wire(1, 0, 0));
        x.block(Kinds.NOT);
        Check.same("a block that has come since", 0, x.wire(1, 0, 2));
    }

    /** "The two numbers of a block. Illegal argument." */
    private static void promise4TheTwoNumbers() {
        Bench bench = new Bench(Kinds.LIMIT).numbers(MIN, MAX);
        Check.same("the least p", MIN, bench.tick(MIN));
        Check.same("the greatest q", MAX, bench.tick(MAX));
        BlockPrograms x = blocks(2, Kinds.NUMBER);
        x.numbers(0, 4, 0);
        x.numbers(1, 5, 0);
        Check.refusesArgument("block -1", () -> x.numbers(-1, 7, 7));
        Check.refusesArgument("block 2", () -> x.numbers(2, 7, 7));
        x.run(1);
        Check.same("the first block's stays", 4, x.out(0));
        Check.same("the last block's stays", 5, x.out(1));
    }

    /** "A number of a block's row (0 .. 7): what it was. Illegal argument" */
    private static void promise5ANumberOfTheRow() {
        BlockPrograms x = blocks(2, Kinds.ROW);
        Check.refusesArgument("number -1", () -> x.row(1, -1, 5));
        Check.same("number 0 at first", 0, x.row(1, 0, MIN));
        Check.same("number 7 at first", 0, x.row(1, 7, MAX));
        Check.refusesArgument("number 8", () -> x.row(1, 8, 5));
        Check.refusesArgument("block -1", () -> x.row(-1, 0, 5));
        Check.refusesArgument("block 2", () -> x.row(2, 0, 5));
        Check.same("number 0 then", MIN, x.row(1, 0, 0));
        Check.same("number 7 then", MAX, x.row(1, 7, 0));
        Check.same("another block's", 0, x.row(0, 0, 0));
        for (int k = 1; k < 7; k++) {
            Check.same("number " + k + " stays", 0, x.row(1, k, 0));
        }
    }

    /** "illegal state: it is no ROW." */
    private static void promise5ItIsNoRow() {
        for (int kind = 0; kind <= 25; kind++) {
            BlockPrograms x = blocks(1, kind);
            if (kind == Kinds.ROW) {
                Check.same("a ROW", 0, x.row(0, 0, 5));
            } else {
                Check.refusesState("kind " + kind, () -> x.row(0, 0, 5));
            }
            x.become(0, Kinds.ROW);
            Check.same("what stands in it", kind == Kinds.ROW ? 5 : 0, x.row(0, 0, 5));
        }
    }

    /** "A block's safe value: what it was. Illegal argument." */
    private static void promise6WhatItWas() {
        BlockPrograms x = blocks(2, Kinds.NOT);
        Check.same("at first", 0, x.safe(1, MIN));
        Check.same("then", MIN, x.safe(1, MAX));
        Check.refusesArgument("block -1", () -> x.safe(-1, 5));
        Check.refusesArgument("block 2", () -> x.safe(2, 5));
        Check.same("at last", MAX, x.safe(1, 0));
        Check.same("another block's", 0, x.safe(0, 0));
    }

    /** "A point's value: what it was. Illegal argument." */
    private static void promise7WhatItWas() {
        BlockPrograms x = new BlockPrograms();
        Check.same("point 0 at first", 0, x.point(0, MIN));
        Check.same("point 9 at first", 0, x.point(9, MAX));
        Check.refusesArgument("point -1", () -> x.point(-1, 5));
        Check.refusesArgument("point 10", () -> x.point(10, 5));
        Check.refusesArgument("the least point", () -> x.point(MIN, 5));
        Check.refusesArgument("the greatest point", () -> x.point(MAX, 5));
        Check.same("point 0 then", MIN, x.point(0, 0));
        Check.same("point 9 then", MAX, x.point(9, 0));
        for (int i = 1; i < 9; i++) {
            Check.same("point " + i + " stays", 0, x.point(i, 0));
        }
    }

    /** "A block is in hand with a value, or is not: whether it was. Illegal argument." */
    private static void promise8WhetherItWas() {
        BlockPrograms x = blocks(2, Kinds.NUMBER);
        Check.same("at first", false, x.hand(1, false, 5));
        Check.same("let go", false, x.hand(1, true, 6));
        Check.same("taken", true, x.hand(1, true, 7));
        Check.refusesArgument("block -1", () -> x.hand(-1, false, 0));
        Check.refusesArgument("block 2", () -> x.hand(2, false, 0));
        x.run(1);
        Check.same("the value of the last hand", 7, x.out(1));
        Check.same("taken still", true, x.hand(1, false, 8));
        Check.same("let go again", false, x.hand(1, false, 9));
        x.run(1);
        Check.same("a value without a hand is none", 0, x.out(1));
        Check.same("another block", false, x.hand(0, false, 0));
    }

    /** "How many blocks come in the order before there is a ring: all, if there is none." */
    private static void promise9AllIfThereIsNoRing() {
        Check.same("of none", 0, new BlockPrograms().order());
        BlockPrograms x = blocks(40, Kinds.NOT);
        Check.same("all of 40", 40, x.order());
        x.wire(39, 0, 39);
        Check.same("all but the last", 39, x.order());
        x.wire(0, 0, 39);
        Check.same("and one behind it", 38, x.order());
        for (int i = 0; i < 39; i++) {
            x.wire(i, 0, i + 1);
        }
        Check.same("none of 40", 0, x.order());
    }

    /** "The k-th block in the order ... Illegal argument: there is none such." */
    private static void promise10TheKthBlock() {
        BlockPrograms x = blocks(40, Kinds.NOT);
        x.wire(0, 0, 39);
        Check.refusesArgument("at(-1)", () -> x.at(-1));
        Check.same("at(0)", 1, x.at(0));
        Check.same("at(38)", 39, x.at(38));
        Check.same("at(39)", 0, x.at(39));
        Check.refusesArgument("at(40)", () -> x.at(40));
        BlockPrograms one = blocks(1, Kinds.NOT);
        Check.same("at(0) of one", 0, one.at(0));
        Check.refusesArgument("at(1) of one", () -> one.at(1));
    }

    /** "behind these those that cannot come, by their numbers" */
    private static void promise10ThoseThatCannotCome() {
        BlockPrograms x = blocks(4, Kinds.NOT);
        x.wire(0, 0, 3);
        x.wire(3, 0, 3);
        x.wire(1, 0, 2);
        int[] due = {2, 1, 0, 3};
        for (int k = 0; k < 4; k++) {
            Check.same("at(" + k + ")", due[k], x.at(k));
        }
        Check.refusesArgument("at(-1)", () -> x.at(-1));
        Check.refusesArgument("at(4)", () -> x.at(4));
        x.wire(2, 0, 2);
        for (int k = 0; k < 4; k++) {
            Check.same("none can come, at(" + k + ")", k, x.at(k));
        }
    }

    /** "n ticks: the TIME. Illegal argument: n is not 1 .. 500" */
    private static void promise11NIsNot1To500() {
        BlockPrograms x = new BlockPrograms();
        Check.refusesArgument("0 ticks", () -> x.run(0));
        Check.refusesArgument("501 ticks", () -> x.run(501));
        Check.refusesArgument("-1 ticks", () -> x.run(-1));
        Check.refusesArgument("the least", () -> x.run(MIN));
        Check.refusesArgument("the greatest", () -> x.run(MAX));
        Check.same("1 tick", 1, x.run(1));
        Check.same("500 ticks", 501, x.run(500));
        Bench bench = new Bench(Kinds.SINCE).numbers(MAX, 0);
        bench.tick(1);
        bench.program.run(500);
        Check.same("so many ticks were", 501, bench.out());
    }

    /** "illegal state: there is a ring" */
    private static void promise11ThereIsARing() {
        BlockPrograms x = blocks(40, Kinds.NUMBER);
        x.numbers(0, 5, 0);
        x.become(39, Kinds.NOT);
        x.wire(39, 0, 39);
        Check.refusesState("a ring of the last", () -> x.run(1));
        Check.refusesState("a ring of the last, 500 ticks", () -> x.run(500));
        Check.same("no block reckoned", 0, x.out(0));
        Check.same("none failed", 0, x.failed(0));
        x.become(39, Kinds.DELAY);
        Check.same("and TIME stayed", 1, x.run(1));
        Check.same("without a ring they reckon", 5, x.out(0));
    }

    /** "or TIME would be above 3000" */
    private static void promise11TimeWouldBeAbove3000() {
        BlockPrograms x = new BlockPrograms();
        for (int i = 1; i <= 5; i++) {
            x.run(500);
        }
        x.run(1);
        Check.refusesState("500 ticks from 2501", () -> x.run(500));
        Check.same("499 ticks from 2501", 3000, x.run(499));
        Check.refusesState("1 tick from 3000", () -> x.run(1));
        Check.refusesState("500 ticks from 3000", () -> x.run(500));
        BlockPrograms y = new BlockPrograms();
        for (int i = 1; i <= 6; i++) {
            Check.same("500 ticks", 500 * i, y.run(500));
        }
        Check.refusesState("1 tick from 3000", () -> y.run(1));
    }

    /** "A block's output. Illegal argument." */
    private static void promise12ABlocksOutput() {
        BlockPrograms x = blocks(40, Kinds.NUMBER);
        x.numbers(0, MIN, 0);
        x.numbers(39, MAX, 0);
        x.run(1);
        Check.same("the first block's", MIN, x.out(0));
        Check.same("the last block's", MAX, x.out(39));
        Check.refusesArgument("block -1", () -> x.out(-1));
        Check.refusesArgument("block 40", () -> x.out(40));
        BlockPrograms two = blocks(2, Kinds.NUMBER);
        Check.refusesArgument("block 2 of two", () -> two.out(2));
    }

    /** "A value of a block's state: what = 0 the first, 1 the second. Illegal argument." */
    private static void promise13FirstAndSecond() {
        Bench bench = new Bench(Kinds.PULSE).numbers(9, 0);
        bench.tick(MIN);
        BlockPrograms x = bench.program;
        Check.same("the first", 8, x.state(Bench.TESTED, 0));
        Check.same("the second", MIN, x.state(Bench.TESTED, 1));
        Check.refusesArgument("what -1", () -> x.state(Bench.TESTED, -1));
        Check.refusesArgument("what 2", () -> x.state(Bench.TESTED, 2));
        Check.refusesArgument("block -1", () -> x.state(-1, 0));
        Check.refusesArgument("block 4", () -> x.state(4, 0));
    }

    /** "How many failures there were; of kind 1, 2, 3, or (0) all. Illegal argument." */
    private static void promise14Of1To3OrAll() {
        BlockPrograms x = blocks(40, Kinds.NOT);
        for (int kind = 0; kind <= 3; kind++) {
            Check.same("of kind " + kind + " at first", 0, x.failed(kind));
        }
        Check.refusesArgument("kind -1", () -> x.failed(-1));
        Check.refusesArgument("kind 4", () -> x.failed(4));
        Check.refusesArgument("the least kind", () -> x.failed(MIN));
        Check.refusesArgument("the greatest kind", () -> x.failed(MAX));
        for (int i = 0; i < 6; i++) {
            x.run(500);
        }
        Check.same("as many as there may be", 120000, x.failed(0));
        Check.same("all NOTHING", 120000, x.failed(3));
        Check.same("none ZERO", 0, x.failed(1));
        Check.same("none BAD", 0, x.failed(2));
    }

    /** "Of the k-th latest failure (from 0; the latest 32 are kept): what = 0 its tick, 1 its block, 2 its kind." */
    private static void promise15TheLatest32AreKept() {
        BlockPrograms x = blocks(3, Kinds.NOT);
        x.become(1, Kinds.POINT);
        x.numbers(1, -1, 0);
        for (int tick = 1; tick <= 40; tick++) {
            x.run(1);
            int oldest = Math.min(3 * tick, 32) - 1;
            Check.same("the latest one's tick", tick, x.failure(0, 0));
            Check.same("the latest one's block", 2, x.failure(0, 1));
            Check.same("the latest one's kind", Kinds.NOTHING, x.failure(0, 2));
            Check.same("the oldest one's tick", tick - oldest / 3, x.failure(oldest, 0));
            Check.same("the oldest one's block", 2 - oldest % 3, x.failure(oldest, 1));
            Check.same("the oldest one's kind", oldest % 3 == 1 ? Kinds.BAD : Kinds.NOTHING, x.failure(oldest, 2));
            Check.refusesArgument("one older than that", () -> x.failure(oldest + 1, 0));
        }
    }

    /** "Illegal argument: there is none such." */
    private static void promise15ThereIsNoneSuch() {
        BlockPrograms x = blocks(1, Kinds.NOT);
        Check.refusesArgument("the latest of none", () -> x.failure(0, 0));
        x.run(1);
        Check.refusesArgument("failure -1", () -> x.failure(-1, 0));
        Check.refusesArgument("failure 1 of one", () -> x.failure(1, 0));
        Check.refusesArgument("what -1", () -> x.failure(0, -1));
        Check.refusesArgument("what 3", () -> x.failure(0, 3));
        x.run(31);
        Check.same("failure 31 of 32", 1, x.failure(31, 0));
        Check.refusesArgument("failure 32 of 32", () -> x.failure(32, 0));
        x.run(1);
        Check.same("failure 31 of 33", 2, x.failure(31, 0));
        Check.refusesArgument("failure 32 of 33", () -> x.failure(32, 0));
        Check.refusesArgument("the least", () -> x.failure(MIN, 0));
        Check.refusesArgument("the greatest", () -> x.failure(MAX, 0));
    }

    /** "All outputs and states are saved (not TIME, not what was told): under which number, 0, 1, ..." */
    private static void promise16UnderWhichNumber() {
        Bench bench = new Bench(Kinds.COUNT);
        bench.tick(5, 0);
        for (int i = 0; i < 3; i++) {
            Check.same("saving " + i, i, bench.program.save());
            bench.tick(0, 0);
            bench.tick(6 + i, 0);
        }
        Check.same("the first saving again", 4, bench.program.back(0));
        Check.same("its output", 1, bench.out());
        Check.same("its first value", 1, bench.first());
        Check.same("its second value", 5, bench.second());
        Check.same("the third saving", 4, bench.program.back(2));
        Check.same("its output then", 3, bench.out());
        Check.same("its second value then", 7, bench.second());
        Check.same("TIME goes on", 8, bench.program.run(1));
        Check.same("a number told since stays", 8, bench.program.out(0));
    }

    /** "Illegal state: there are 5." */
    private static void promise16ThereAre5() {
        BlockPrograms x = blocks(40, Kinds.NUMBER);
        for (int i = 0; i < 5; i++) {
            x.numbers(39, i + 1, 0);
            x.run(1);
            Check.same("saving " + i, i, x.save());
        }
        x.numbers(39, 6, 0);
        x.run(1);
        Check.refusesState("a sixth", () -> x.save());
        Check.refusesArgument("which there is not", () -> x.back(5));
        Check.same("the fifth is as it was", 40, x.back(4));
        Check.same("its last block's output", 5, x.out(39));
        Check.refusesState("one brought back is still there", () -> x.save());
    }

    /** "of blocks that were there then ...; others stay: how many blocks" */
    private static void promise17BlocksThatWereThere() {
        BlockPrograms x = new BlockPrograms();
        x.save();
        x.block(Kinds.POINT);
        x.point(0, 4);
        x.run(1);
        x.save();
        for (int i = 1; i < 40; i++) {
            x.block(Kinds.POINT);
        }
        x.point(0, 5);
        x.run(1);
        x.save();
        x.point(0, 6);
        x.run(1);
        Check.same("none were there", 0, x.back(0));
        Check.same("the first stays", 6, x.out(0));
        Check.same("one was there", 1, x.back(1));
        Check.same("the first comes back", 4, x.out(0));
        Check.same("the second stays", 6, x.out(1));
        Check.same("40 were there", 40, x.back(2));
        Check.same("the first comes back", 5, x.out(0));
        Check.same("the last comes back", 5, x.out(39));
    }

    /** "and had the kind that they have" */
    private static void promise17TheKindThatTheyHave() {
        BlockPrograms x = blocks(3, Kinds.NUMBER);
        for (int i = 0; i < 3; i++) {
            x.numbers(i, 5 + i, 0);
        }
        x.run(1);
        x.save();
        for (int i = 0; i < 3; i++) {
            x.become(i, Kinds.CLOCK);
        }
        Check.same("none has it", 0, x.back(0));
        Check.same("it stays", 0, x.out(0));
        x.become(2, Kinds.NUMBER);
        Check.same("one has it again", 1, x.back(0));
        Check.same("the first stays", 0, x.out(0));
        Check.same("the last comes back", 7, x.out(2));
        x.save();
        x.become(2, Kinds.CLOCK);
        Check.same("two have the kind of the later saving", 2, x.back(1));
        Check.same("a new output stays", 0, x.out(2));
    }

    /** "Illegal argument: there is no such saving." */
    private static void promise17ThereIsNoSuchSaving() {
        BlockPrograms x = blocks(1, Kinds.NUMBER);
        Check.refusesArgument("saving 0 of none", () -> x.back(0));
        x.save();
        x.numbers(0, 5, 0);
        x.run(1);
        Check.refusesArgument("saving -1", () -> x.back(-1));
        Check.refusesArgument("saving 1 of one", () -> x.back(1));
        Check.same("the output stays", 5, x.out(0));
        for (int i = 1; i < 5; i++) {
            x.save();
        }
        Check.same("saving 4 of five", 1, x.back(4));
        Check.refusesArgument("saving 5 of five", () -> x.back(5));
        Check.refusesArgument("the least", () -> x.back(MIN));
        Check.refusesArgument("the greatest", () -> x.back(MAX));
    }

    /** "A block becomes one of another kind, with output and state 0 ...: of which kind it was." */
    private static void promise18OutputAndState0() {
        for (int kind = 0; kind <= 25; kind++) {
            Bench bench = new Bench(Kinds.COUNT);
            bench.tick(5, 0);
            Check.same("it was a COUNT", Kinds.COUNT, bench.program.become(Bench.TESTED, kind));
            Check.same("output", 0, bench.out());
            Check.same("first value", 0, bench.first());
            Check.same("second value", 0, bench.second());
            Check.same("it was of kind " + kind, kind, bench.program.become(Bench.TESTED, Kinds.COUNT));
            Check.same("a new COUNT", 1, bench.tick(5, 0));
        }
    }

    /** "(wires, numbers, safe value, row stay, its hand, too)" */
    private static void promise18WiresNumbersSafeRowHandStay() {
        Bench bench = new Bench(Kinds.ROW, "abc").numbers(MIN, MAX).safe(70);
        BlockPrograms x = bench.program;
        x.row(Bench.TESTED, 7, 77);
        x.hand(Bench.TESTED, true, 60);
        x.become(Bench.TESTED, Kinds.LIMIT);
        Check.same("the hand", 60, bench.tick(5));
        Check.same("in hand", true, x.hand(Bench.TESTED, false, 0));
        Check.same("p", MIN, bench.tick(MIN));
        Check.same("q", MAX, bench.tick(MAX));
        x.become(Bench.TESTED, Kinds.ROW);
        Check.same("the row", 77, bench.tick(7));
        Check.same("the safe value", 70, bench.tick(8));
        for (int input = 0; input < 3; input++) {
            Check.same("wire " + input, input, x.wire(Bench.TESTED, input, NONE));
        }
    }

    /** "Illegal argument." */
    private static void promise18IllegalArgument() {
        BlockPrograms x = blocks(2, Kinds.NUMBER);
        x.numbers(1, 5, 0);
        x.run(1);
        Check.refusesArgument("kind -1", () -> x.become(1, -1));
        Check.refusesArgument("kind 26", () -> x.become(1, 26));
        Check.refusesArgument("block -1", () -> x.become(-1, 0));
        Check.refusesArgument("block 2", () -> x.become(2, 0));
        Check.same("the output stays", 5, x.out(1));
        Check.same("the kind stays; 0 is one", Kinds.NUMBER, x.become(1, 0));
        Check.same("25 is one", 0, x.become(1, 25));
        Check.same("so it was", 25, x.become(1, 25));
    }

    private static BlockPrograms blocks(int count, int kind) {
        BlockPrograms x = new BlockPrograms();
        for (int i = 0; i < count; i++) {
            x.block(kind);
        }
        return x;
    }
}
