/**
 * The document's "What it is" and "Terms", sentence by sentence: each method stands for the sentence that it quotes
 * and tries its boundary cases alone. The kinds have a class of their own, KindEdgesTest.
 */
final class TermsEdgesTest {
    private static final int MIN = Kinds.MIN;
    private static final int MAX = Kinds.MAX;

    private TermsEdgesTest() {
    }

    static void run() {
        anObjectIsUsedFor512Calls();
        valuesAre32BitNumbersWrapping();
        blocksAre0To39();
        theTwoNumbersAre0AtFirst();
        theSafeValueIs0AtFirst();
        thereAreThreeInputs();
        anInputIsPerhapsWired();
        theOutputIs0AtFirst();
        theStateIsTwoValues0AtFirst();
        pointsAre0To9With0AtFirst();
        timeIs0AtFirst();
        failuresAre1To3();
        aFailingBlockSaysItsSafeValue();
        aFailingBlocksStateStays();
        aBlockComesBehindThoseItIsWiredTo();
        aDelayComesBehindNone();
        theLeastOfThoseThatMayComeIsNext();
        ifNotAllCanComeThereIsARing();
        timeGrowsBy1ATick();
        eachReckonsBlockByBlock();
        oneInHandHasTheHandsValue();
        oneInHandReckonsFirst();
        oneInHandMayFailAllTheSame();
        delaysTakeBehindAllOthers();
        delaysTakeInTheOrderOfNumbers();
        anUnwiredDelayFailsThen();
        anUnwiredDelayInHandFailsThen();
        theFirstOfSeveralExceptionsIsThrown();
    }

    /** "An object is used for at most 512 calls after it has been made" */
    private static void anObjectIsUsedFor512Calls() {
        BlockPrograms x = new BlockPrograms();
        x.block(Kinds.NUMBER);
        for (int i = 1; i <= 255; i++) {
            x.numbers(0, i, 0);
            x.run(1);
        }
        Check.same("the 512th call", 255, x.out(0));
    }

    /** "VALUES are 32-bit numbers, wrapping" */
    private static void valuesAre32BitNumbersWrapping() {
        Check.same("above the greatest", MIN, new Bench(Kinds.ADD).tick(MAX, 1));
        Check.same("the greatest twice", -2, new Bench(Kinds.ADD).tick(MAX, MAX));
        Check.same("the least twice", 0, new Bench(Kinds.ADD).tick(MIN, MIN));
        Check.same("below the least", MAX, new Bench(Kinds.LESS_BY).tick(MIN, 1));
        Check.same("0 less the least", MIN, new Bench(Kinds.LESS_BY).tick(0, MIN));
        Check.same("the greatest less the least", -1, new Bench(Kinds.LESS_BY).tick(MAX, MIN));
        Check.same("a square above the greatest", -2147479015, new Bench(Kinds.TIMES).tick(46341, 46341));
        Check.same("the square of the greatest", 1, new Bench(Kinds.TIMES).tick(MAX, MAX));
        Check.same("the square of the least", 0, new Bench(Kinds.TIMES).tick(MIN, MIN));
        Bench sum = new Bench(Kinds.SUM);
        sum.tick(MIN, 0);
        Check.same("a sum below the least", MAX, sum.tick(-1, 0));
        Check.same("a sum above the greatest", MIN, sum.tick(1, 0));
        Check.same("the state wraps, too", MIN, sum.first());
    }

    /** "BLOCKS are 0 .. 39 as they come" */
    private static void blocksAre0To39() {
        BlockPrograms x = new BlockPrograms();
        Check.refusesArgument("before the first there is no block 0", () -> x.out(0));
        for (int i = 0; i < 40; i++) {
            Check.same("block " + i, i, x.block(i % 26));
        }
        Check.same("block 0 is there", 0, x.out(0));
        Check.same("block 39 is there", 0, x.out(39));
        Check.refusesArgument("block -1 is not", () -> x.out(-1));
        Check.refusesArgument("block 40 is not", () -> x.out(40));
    }

    /** "with two NUMBERS p and q (0 at first)" */
    private static void theTwoNumbersAre0AtFirst() {
        BlockPrograms x = new BlockPrograms();
        x.block(Kinds.POINT);
        x.block(Kinds.NUMBER);
        x.point(0, 12);
        x.run(1);
        Check.same("p of a POINT at first", 12, x.out(0));
        Check.same("p of a NUMBER at first", 0, x.out(1));
        Check.same("p of a LIMIT at first", 0, new Bench(Kinds.LIMIT).tick(-3));
        Check.same("q of a LIMIT at first", 0, new Bench(Kinds.LIMIT).tick(3));
        Check.same("p of a RAMP at first", 0, new Bench(Kinds.RAMP).tick(3));
        Check.same("p of a SINCE at first", 0, new Bench(Kinds.SINCE).tick(3));
        Check.same("p of a PULSE at first", 0, new Bench(Kinds.PULSE).tick(3));
        Check.same("p and q of a CLOCK at first", 0, new Bench(Kinds.CLOCK).tick(0));
    }

    /** "a SAFE value (0 at first)" */
    private static void theSafeValueIs0AtFirst() {
        BlockPrograms x = new BlockPrograms();
        x.block(Kinds.NUMBER);
        x.numbers(0, 5, 0);
        x.run(1);
        x.become(0, Kinds.NOT);
        x.hand(0, true, 9);
        x.run(1);
        x.hand(0, false, 9);
        x.run(1);
        Check.same("the safe value at first is said", 0, x.out(0));
        Check.same("and told", 0, x.safe(0, 1));
    }

    /** "three INPUTS 0 .. 2" */
    private static void thereAreThreeInputs() {
        BlockPrograms x = new BlockPrograms();
        x.block(Kinds.NUMBER);
        Check.refusesArgument("input -1", () -> x.wire(0, -1, 0));
        for (int input = 0; input < 3; input++) {
            Check.same("input " + input, -1, x.wire(0, input, 0));
        }
        Check.refusesArgument("input 3", () -> x.wire(0, 3, 0));
    }

    /** "each perhaps wired to a block" */
    private static void anInputIsPerhapsWired() {
        BlockPrograms x = new BlockPrograms();
        for (int i = 0; i < 40; i++) {
            x.block(Kinds.CHOICE);
        }
        for (int i = 0; i < 40; i += 13) {
            for (int input = 0; input < 3; input++) {
                Check.same("unwired at first", Kinds.NONE, x.wire(i, input, Kinds.NONE));
            }
        }
    }

    /** "an OUTPUT (0 at first)" */
    private static void theOutputIs0AtFirst() {
        BlockPrograms x = new BlockPrograms();
        x.block(Kinds.NUMBER);
        x.numbers(0, 8, 0);
        x.run(1);
        for (int kind = 0; kind <= 25; kind++) {
            int block = x.block(kind);
            x.numbers(block, 5, 6);
            x.safe(block, 7);
            Check.same("kind " + kind + " before its first tick", 0, x.out(block));
        }
        Check.same("an earlier block's", 8, x.out(0));
    }

    /** "a STATE (two values, 0 at first)" */
    private static void theStateIsTwoValues0AtFirst() {
        BlockPrograms x = new BlockPrograms();
        for (int kind = 0; kind <= 25; kind++) {
            x.block(kind);
            Check.same("kind " + kind + ", first", 0, x.state(kind, 0));
            Check.same("kind " + kind + ", second", 0, x.state(kind, 1));
        }
        Check.refusesArgument("a value before the first", () -> x.state(0, -1));
        Check.refusesArgument("a third value", () -> x.state(0, 2));
    }

    /** "POINTS are 0 .. 9, with values (0 at first)" */
    private static void pointsAre0To9With0AtFirst() {
        BlockPrograms x = new BlockPrograms();
        Check.refusesArgument("point -1", () -> x.point(-1, 5));
        Check.refusesArgument("point 10", () -> x.point(10, 5));
        for (int i = 0; i < 10; i++) {
            Check.same("point " + i + " at first", 0, x.point(i, 0));
        }
    }

    /** "TIME is a number of ticks, 0 at first" */
    private static void timeIs0AtFirst() {
        Check.same("one tick", 1, new BlockPrograms().run(1));
        Check.same("500 ticks", 500, new BlockPrograms().run(500));
    }

    /** "ZERO, BAD and NOTHING are FAILURES (1, 2, 3)" */
    private static void failuresAre1To3() {
        Bench zero = new Bench(Kinds.OVER);
        zero.tick(1, 0);
        Check.same("ZERO", 1, zero.program.failure(0, 2));
        Bench bad = new Bench(Kinds.ROW);
        bad.tick(8);
        Check.same("BAD", 2, bad.program.failure(0, 2));
        Bench nothing = new Bench(Kinds.NOT, "");
        nothing.tick(0);
        Check.same("NOTHING", 3, nothing.program.failure(0, 2));
        for (int kind = 1; kind <= 3; kind++) {
            Check.same("of kind " + kind + ", ZERO", kind == 1 ? 1 : 0, zero.program.failed(kind));
            Check.same("of kind " + kind + ", BAD", kind == 2 ? 1 : 0, bad.program.failed(kind));
            Check.same("of kind " + kind + ", NOTHING", kind == 3 ? 1 : 0, nothing.program.failed(kind));
        }
    }

    /** "the block's output is its SAFE value" */
    private static void aFailingBlockSaysItsSafeValue() {
        int[] values = {MIN, -1, 0, 1, MAX};
        for (int value : values) {
            Check.same("ZERO says " + value, value, new Bench(Kinds.REST).safe(value).tick(1, 0));
            Check.same("BAD says " + value, value, new Bench(Kinds.POINT).numbers(10, 0).safe(value).tick(0));
            Check.same("NOTHING says " + value, value, new Bench(Kinds.ADD, "").safe(value).tick(0));
        }
        Bench read = new Bench(Kinds.OVER).safe(6);
        read.program.block(Kinds.NOT);
        read.program.wire(4, 0, Bench.TESTED);
        read.tick(1, 0);
        Check.same("those behind it read the safe value", 0, read.program.out(4));
        read.safe(0).tick(1, 0);
        Check.same("and the next one in the next tick", 1, read.program.out(4));
    }

    /** "its state stays" */
    private static void aFailingBlocksStateStays() {
        int[] kinds = {Kinds.COUNT, Kinds.LATCH, Kinds.SUM};
        for (int kind : kinds) {
            Bench bench = new Bench(kind);
            bench.tick(5, 0);
            int first = bench.first();
            int second = bench.second();
            bench.program.wire(Bench.TESTED, 1, Kinds.NONE);
            bench.tick(0, 1);
            bench.tick(7, 1);
            Check.same("kind " + kind + " has a first value", true, first != 0);
            Check.same("kind " + kind + ", first value", first, bench.first());
            Check.same("kind " + kind + ", second value", second, bench.second());
        }
    }

    /** "a block comes behind those to which its kind's inputs are wired" */
    private static void aBlockComesBehindThoseItIsWiredTo() {
        for (int input = 0; input < 3; input++) {
            BlockPrograms x = new BlockPrograms();
            x.block(Kinds.CHOICE);
            x.block(Kinds.NUMBER);
            x.wire(0, input, 1);
            Check.same("behind its input " + input, 0, x.at(1));
            x.become(0, Kinds.CLOCK);
            Check.same("a kind that names none waits for none", 0, x.at(0));
        }
    }

    /** "but for a DELAY, which comes behind none" */
    private static void aDelayComesBehindNone() {
        BlockPrograms x = new BlockPrograms();
        x.block(Kinds.DELAY);
        x.block(Kinds.NOT);
        x.wire(0, 0, 1);
        Check.same("not behind its input", 0, x.at(0));
        x.wire(0, 0, 0);
        Check.same("nor behind itself", 2, x.order());
        x.wire(1, 0, 1);
        x.wire(0, 0, 1);
        Check.same("nor behind a ring", 1, x.order());
    }

    /** "of those that may come next the least" */
    private static void theLeastOfThoseThatMayComeIsNext() {
        BlockPrograms x = new BlockPrograms();
        x.block(Kinds.NOT);
        x.block(Kinds.NUMBER);
        x.block(Kinds.NUMBER);
        x.wire(0, 0, 1);
        Check.same("1 opens the way", 1, x.at(0));
        Check.same("for 0, the least", 0, x.at(1));
        Check.same("before 2", 2, x.at(2));
    }

    /** "If not all can come there is a RING." */
    private static void ifNotAllCanComeThereIsARing() {
        BlockPrograms x = new BlockPrograms();
        Check.same("no blocks are no ring", 1, x.run(1));
        x.block(Kinds.NOT);
        Check.same("one that waits for none", 2, x.run(1));
        x.wire(0, 0, 0);
        Check.refusesState("one that waits for itself", () -> x.run(1));
        x.block(Kinds.NOT);
        x.wire(0, 0, 1);
        Check.same("one that waits for another", 3, x.run(1));
        x.wire(1, 0, 0);
        Check.refusesState("two that wait for one another", () -> x.run(1));
        x.become(1, Kinds.NUMBER);
        Check.same("a wire that the kind does not name", 4, x.run(1));
        x.become(1, Kinds.NOT);
        x.hand(1, true, 5);
        Check.refusesState("a hand opens no ring", () -> x.run(1));
    }

    /** "TIME grows by 1" (before the blocks reckon, so that a CLOCK and a failure see the new one) */
    private static void timeGrowsBy1ATick() {
        Bench clock = new Bench(Kinds.CLOCK).numbers(1, 2);
        Check.same("the first tick is at TIME 1", 1, clock.tick(0));
        Check.same("the second is not", 0, clock.tick(0));
        Bench failing = new Bench(Kinds.NOT, "");
        failing.tick(0);
        Check.same("the first failure's tick", 1, failing.program.failure(0, 0));
        Check.same("the time after it", 2, failing.program.run(1));
    }

    /** "block by block, in the order, each reckons" */
    private static void eachReckonsBlockByBlock() {
        BlockPrograms x = new BlockPrograms();
        for (int i = 0; i < 39; i++) {
            x.block(Kinds.ADD);
        }
        x.block(Kinds.NUMBER);
        x.numbers(39, 1, 0);
        for (int i = 0; i < 39; i++) {
            x.wire(i, 0, i + 1);
            x.wire(i, 1, 39);
        }
        x.run(1);
        for (int i = 0; i < 39; i++) {
            Check.same("40 blocks in one tick, " + i, 40 - i, x.out(i));
        }
    }

    /** "but one that is in HAND has the hand's value" */
    private static void oneInHandHasTheHandsValue() {
        int[] values = {MIN, -1, 0, 1, MAX};
        for (int kind = 0; kind <= 25; kind++) {
            for (int value : values) {
                Check.same("kind " + kind + " in hand", value, new Bench(kind).hand(value).tick(1, 1, 1));
                Check.same("kind " + kind + " failing in hand", value, new Bench(kind, "").hand(value).tick(1, 1, 1));
            }
        }
    }

    /** "(it reckons first" */
    private static void oneInHandReckonsFirst() {
        Bench count = new Bench(Kinds.COUNT).hand(0);
        count.tick(5, 0);
        count.tick(0, 0);
        count.tick(5, 0);
        Check.same("a COUNT in hand counts", 2, count.first());
        Check.same("and says the hand's 0", 0, count.out());
        Check.same("out of hand it says so", 2, count.release().tick(5, 0));
    }

    /** "and may fail, all the same)" */
    private static void oneInHandMayFailAllTheSame() {
        Bench over = new Bench(Kinds.OVER).hand(3);
        over.tick(1, 0);
        Check.same("ZERO in hand", 1, over.program.failed(Kinds.ZERO));
        Bench row = new Bench(Kinds.ROW).hand(3);
        row.tick(-1);
        Check.same("BAD in hand", 1, row.program.failed(Kinds.BAD));
        Bench not = new Bench(Kinds.NOT, "").hand(3);
        not.tick(0);
        Check.same("NOTHING in hand", 1, not.program.failed(Kinds.NOTHING));
        Check.same("the hand's value goes before the safe one", 3, not.safe(8).tick(0));
    }

    /** "A DELAY takes a behind all others" */
    private static void delaysTakeBehindAllOthers() {
        BlockPrograms x = new BlockPrograms();
        x.block(Kinds.DELAY);
        x.block(Kinds.NOT);
        x.wire(0, 0, 1);
        x.wire(1, 0, 0);
        x.run(1);
        Check.same("the DELAY said 0", 0, x.out(0));
        Check.same("the NOT behind it said 1", 1, x.out(1));
        Check.same("which the DELAY took in the same tick", 1, x.state(0, 0));
        x.run(1);
        Check.same("and says in the next", 1, x.out(0));
    }

    /** "in the order of numbers" */
    private static void delaysTakeInTheOrderOfNumbers() {
        BlockPrograms x = new BlockPrograms();
        for (int i = 0; i < 3; i++) {
            x.block(Kinds.DELAY);
            x.safe(i, 10 + i);
        }
        x.wire(0, 0, 1);
        x.wire(2, 0, 1);
        x.run(1);
        Check.same("0 takes before 1 fails", 0, x.state(0, 0));
        Check.same("1 fails", 11, x.out(1));
        Check.same("2 takes behind it", 11, x.state(2, 0));
    }

    /** "(it fails then, if a is not wired, and its output becomes the safe value ... its state stays)" */
    private static void anUnwiredDelayFailsThen() {
        BlockPrograms x = new BlockPrograms();
        x.block(Kinds.DELAY);
        x.block(Kinds.NOT);
        x.block(Kinds.NOT);
        x.safe(0, 70);
        x.wire(1, 0, 0);
        x.run(1);
        Check.same("those behind it read its state, 0", 1, x.out(1));
        Check.same("then it says the safe value", 70, x.out(0));
        Check.same("its state stays", 0, x.state(0, 0));
        Check.same("it failed behind the NOT", 0, x.failure(0, 1));
        Check.same("which failed before", 2, x.failure(1, 1));
        Check.same("and no other did", 2, x.failed(0));
        x.wire(0, 1, 1);
        x.wire(0, 2, 1);
        x.run(1);
        Check.same("other inputs do not help", 70, x.out(0));
    }

    /** "in HAND the hand's" */
    private static void anUnwiredDelayInHandFailsThen() {
        BlockPrograms x = new BlockPrograms();
        x.block(Kinds.DELAY);
        x.safe(0, 70);
        x.hand(0, true, MIN);
        x.run(1);
        Check.same("the hand's value", MIN, x.out(0));
        Check.same("it failed", 1, x.failed(Kinds.NOTHING));
        Check.same("its state stays", 0, x.state(0, 0));
    }

    /** "Of several exceptions the one named first is thrown" */
    private static void theFirstOfSeveralExceptionsIsThrown() {
        BlockPrograms full = new BlockPrograms();
        for (int i = 0; i < 40; i++) {
            full.block(Kinds.NOT);
        }
        Check.refusesArgument("block: kind -1, and 40 are there", () -> full.block(-1));
        Check.refusesArgument("block: kind 26, and 40 are there", () -> full.block(26));
        Check.refusesArgument("row: place -1, and it is no ROW", () -> full.row(0, -1, 0));
        Check.refusesArgument("row: place 8, and it is no ROW", () -> full.row(0, 8, 0));
        full.wire(0, 0, 0);
        Check.refusesArgument("run: 0 ticks, and there is a ring", () -> full.run(0));
        Check.refusesArgument("run: 501 ticks, and there is a ring", () -> full.run(501));
        full.become(0, Kinds.DELAY);
        for (int i = 0; i < 6; i++) {
            full.run(500);
        }
        Check.refusesArgument("run: 0 ticks at the end", () -> full.run(0));
        Check.refusesArgument("run: 501 ticks at the end", () -> full.run(501));
        full.become(0, Kinds.NOT);
        Check.refusesState("run: a ring at the end", () -> full.run(1));
    }
}
