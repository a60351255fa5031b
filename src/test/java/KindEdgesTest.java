/**
 * The document's KINDS, sentence by sentence: each method stands for the sentence that it quotes and tries its
 * boundary cases alone.
 */
final class KindEdgesTest {
    private static final int MIN = Kinds.MIN;
    private static final int MAX = Kinds.MAX;

    private KindEdgesTest() {
    }

    static void run() {
        aPointIsBadIfThereIsNoneSuch();
        aNumberIsP();
        overGoesTo0();
        overIsZeroIfBIs0();
        restIsWrapping();
        restIsZeroIfBIs0();
        leastAndGreatest();
        belowIsOneIfAIsLess();
        alikeIsOneIfAIsB();
        bothIsOneIfNeitherIs0();
        eitherIsZeroIfBothAre0();
        notIsOneIfAIs0();
        choiceIsBIfAIsNot0();
        aRowIsEight0AtFirst();
        aRowIsBadIfThereIsNoneSuch();
        aDelaySaysItsFirstValue();
        aRampGoesByPButNotBeyondA();
        aRampIsAtAIfItIsNotFurtherAwayThanP();
        aRampIsReckonedIn64Bits();
        aRampsPBelow0CountsAs0();
        aRampGoesOnFromTheHandsValue();
        aCountIsOneMoreIfTheSecondIs0();
        aCountBecomes0WithBNot0();
        aCountsSecondBecomesA();
        aLatchIsAsBefore();
        aClockIsOnFromPToQ();
        aClocksTimeIsModulo1440();
        aClockWithPAboveQ();
        aPulseIsOnWhileTheFirstIsAbove0();
        aPulseBeginsIfTheSecondIs0();
        aPulsesSecondBecomesAAtLast();
        aLimitLooksAtPFirst();
        aHoldSaysTheOutputBefore();
        aSumBecomes0WithBNot0();
        aSinceIsPAtMost();
        aSinceIsPAlwaysIfThatIsBelow0();
        aSinceGrowsTowardsAPThatHasGrown();
        namedInputsMustBeWired();
        allThreeOfAChoiceAreLookedAtFirst();
        nothingComesBeforeZeroAndBad();
    }

    /** "0 POINT: the value of point p (BAD if there is none such)." */
    private static void aPointIsBadIfThereIsNoneSuch() {
        Bench bench = new Bench(Kinds.POINT).safe(-7);
        bench.program.point(0, 20);
        bench.program.point(9, 29);
        Check.same("point -1", -7, bench.numbers(-1, 0).tick(0));
        Check.same("point 0", 20, bench.numbers(0, 0).tick(0));
        Check.same("point 9", 29, bench.numbers(9, 0).tick(0));
        Check.same("point 10", -7, bench.numbers(10, 0).tick(0));
        Check.same("two were BAD", 2, bench.program.failed(Kinds.BAD));
    }

    /** "1 NUMBER: p." */
    private static void aNumberIsP() {
        int[] values = {MIN, -1, 0, 1, MAX};
        for (int value : values) {
            Check.same("NUMBER", value, new Bench(Kinds.NUMBER).numbers(value, 5).tick(0));
        }
    }

    /** "5 OVER: a / b, to 0" */
    private static void overGoesTo0() {
        int[][] table = {
            {7, 2, 3}, {-7, 2, -3}, {7, -2, -3}, {-7, -2, 3}, {1, 2, 0}, {-1, 2, 0}, {MIN, -1, MIN}, {MIN, 1, MIN},
            {MIN, MIN, 1}, {MAX, MIN, 0}, {MIN, MAX, -1}, {MAX, -1, -MAX}
        };
        for (int[] row : table) {
            Check.same(row[0] + " OVER " + row[1], row[2], new Bench(Kinds.OVER).tick(row[0], row[1]));
        }
    }

    /** "(ZERO if b is 0)" */
    private static void overIsZeroIfBIs0() {
        int[] values = {MIN, -1, 0, 1, MAX};
        for (int value : values) {
            Bench bench = new Bench(Kinds.OVER).safe(-7);
            Check.same(value + " OVER 0", -7, bench.tick(value, 0));
            Check.same("is ZERO", 1, bench.program.failed(Kinds.ZERO));
            Check.same("OVER 1 is not", value, bench.tick(value, 1));
            Check.same("ZERO once", 1, bench.program.failed(0));
        }
    }

    /** "6 REST: a - b * (a / b), wrapping" */
    private static void restIsWrapping() {
        int[][] table = {
            {7, 2, 1}, {-7, 2, -1}, {7, -2, 1}, {-7, -2, -1}, {6, 2, 0}, {MIN, -1, 0}, {MIN, MAX, -1}, {MAX, MIN, MAX},
            {MIN, MIN, 0}, {MIN, 3, -2}
        };
        for (int[] row : table) {
            Check.same(row[0] + " REST " + row[1], row[2], new Bench(Kinds.REST).tick(row[0], row[1]));
        }
    }

    /** "(ZERO if b is 0)" */
    private static void restIsZeroIfBIs0() {
        int[] values = {MIN, -1, 0, 1, MAX};
        for (int value : values) {
            Bench bench = new Bench(Kinds.REST).safe(-7);
            Check.same(value + " REST 0", -7, bench.tick(value, 0));
            Check.same("is ZERO", 1, bench.program.failed(Kinds.ZERO));
            Check.same("REST 1 is not", 0, bench.tick(value, 1));
            Check.same("ZERO once", 1, bench.program.failed(0));
        }
    }

    /** "7 LEAST, 8 GREATEST of a and b." */
    private static void leastAndGreatest() {
        int[][] table = {{3, 3, 3, 3}, {-1, 0, -1, 0}, {0, -1, -1, 0}, {MIN, MAX, MIN, MAX}, {MAX, MIN, MIN, MAX}};
        for (int[] row : table) {
            Check.same("LEAST", row[2], new Bench(Kinds.LEAST).tick(row[0], row[1]));
            Check.same("GREATEST", row[3], new Bench(Kinds.GREATEST).tick(row[0], row[1]));
        }
    }

    /** "9 BELOW: 1 if a is less than b, else 0." */
    private static void belowIsOneIfAIsLess() {
        int[][] table = {{4, 5, 1}, {5, 5, 0}, {6, 5, 0}, {-1, 0, 1}, {MIN, MAX, 1}, {MAX, MIN, 0}, {MIN, MIN, 0}};
        for (int[] row : table) {
            Check.same(row[0] + " BELOW " + row[1], row[2], new Bench(Kinds.BELOW).tick(row[0], row[1]));
        }
    }

    /** "10 ALIKE: 1 if a is b, else 0." */
    private static void alikeIsOneIfAIsB() {
        int[][] table = {{0, 0, 1}, {0, 1, 0}, {1000, 1000, 1}, {MIN, MIN, 1}, {MIN, MAX, 0}, {5, -5, 0}, {0, MIN, 0}};
        for (int[] row : table) {
            Check.same(row[0] + " ALIKE " + row[1], row[2], new Bench(Kinds.ALIKE).tick(row[0], row[1]));
        }
    }

    /** "11 BOTH: 1 if neither a nor b is 0, else 0." */
    private static void bothIsOneIfNeitherIs0() {
        int[][] table = {{0, 0, 0}, {0, 1, 0}, {1, 0, 0}, {1, 2, 1}, {-1, MIN, 1}};
        for (int[] row : table) {
            Check.same(row[0] + " BOTH " + row[1], row[2], new Bench(Kinds.BOTH).tick(row[0], row[1]));
        }
    }

    /** "12 EITHER: 0 if a and b are 0, else 1." */
    private static void eitherIsZeroIfBothAre0() {
        int[][] table = {{0, 0, 0}, {0, 1, 1}, {1, 0, 1}, {1, -1, 1}, {0, MIN, 1}};
        for (int[] row : table) {
            Check.same(row[0] + " EITHER " + row[1], row[2], new Bench(Kinds.EITHER).tick(row[0], row[1]));
        }
    }

    /** "13 NOT: 1 if a is 0, else 0." */
    private static void notIsOneIfAIs0() {
        int[][] table = {{0, 1}, {1, 0}, {-1, 0}, {MIN, 0}, {MAX, 0}};
        for (int[] row : table) {
            Check.same("NOT " + row[0], row[1], new Bench(Kinds.NOT).tick(row[0]));
        }
    }

    /** "14 CHOICE: b if a is not 0, else c." */
    private static void choiceIsBIfAIsNot0() {
        int[][] table = {{0, 6}, {1, 5}, {-1, 5}, {MIN, 5}, {MAX, 5}};
        for (int[] row : table) {
            Check.same("CHOICE of " + row[0], row[1], new Bench(Kinds.CHOICE).tick(row[0], 5, 6));
        }
    }

    /** "15 ROW: number a of the block's row (eight, 0 at first" */
    private static void aRowIsEight0AtFirst() {
        Bench bench = new Bench(Kinds.ROW).safe(-7);
        for (int k = 0; k < 8; k++) {
            Check.same("number " + k + " at first", 0, bench.tick(k));
        }
        bench.program.row(Bench.TESTED, 0, MIN);
        bench.program.row(Bench.TESTED, 7, MAX);
        Check.same("number 0", MIN, bench.tick(0));
        Check.same("number 7", MAX, bench.tick(7));
    }

    /** "BAD if there is none such)." */
    private static void aRowIsBadIfThereIsNoneSuch() {
        int[] values = {MIN, -1, 8, MAX};
        for (int value : values) {
            Bench bench = new Bench(Kinds.ROW).safe(-7);
            Check.same("number " + value, -7, bench.tick(value));
            Check.same("is BAD", 1, bench.program.failed(Kinds.BAD));
        }
    }

    /** "16 DELAY: the first value of the state; that becomes a." */
    private static void aDelaySaysItsFirstValue() {
        Bench bench = new Bench(Kinds.DELAY);
        int[] values = {MIN, MAX, 0, -1};
        int before = 0;
        for (int value : values) {
            Check.same("DELAY", before, bench.tick(value));
            Check.same("DELAY's first value", value, bench.first());
            Check.same("DELAY's second value", 0, bench.second());
            before = value;
        }
    }

    /** "17 RAMP: the output before ... and p more or less, but not beyond a" */
    private static void aRampGoesByPButNotBeyondA() {
        Bench bench = new Bench(Kinds.RAMP).numbers(4, 0);
        int[] up = {4, 8, 9, 9};
        for (int due : up) {
            Check.same("up to 9", due, bench.tick(9));
        }
        int[] down = {5, 1, -2, -2};
        for (int due : down) {
            Check.same("down to -2", due, bench.tick(-2));
        }
    }

    /** "(at a if it is not further away than p" */
    private static void aRampIsAtAIfItIsNotFurtherAwayThanP() {
        Check.same("p - 1 away", 9, new Bench(Kinds.RAMP).numbers(10, 0).tick(9));
        Check.same("p away", 10, new Bench(Kinds.RAMP).numbers(10, 0).tick(10));
        Check.same("p + 1 away", 10, new Bench(Kinds.RAMP).numbers(10, 0).tick(11));
        Check.same("p - 1 away, down", -9, new Bench(Kinds.RAMP).numbers(10, 0).tick(-9));
        Check.same("p away, down", -10, new Bench(Kinds.RAMP).numbers(10, 0).tick(-10));
        Check.same("p + 1 away, down", -10, new Bench(Kinds.RAMP).numbers(10, 0).tick(-11));
    }

    /** "reckoned in 64 bits" */
    private static void aRampIsReckonedIn64Bits() {
        Bench bench = new Bench(Kinds.RAMP).numbers(1, 0);
        bench.hand(MIN).tick(0);
        Check.same("from the least to the greatest", MIN + 1, bench.release().tick(MAX));
        bench.hand(MAX).tick(0);
        Check.same("from the greatest to the least", MAX - 1, bench.release().tick(MIN));
        bench.hand(-1).tick(0);
        Check.same("2 to the 31 away, up", 0, bench.release().tick(MAX));
        bench.hand(1).tick(0);
        Check.same("more than that away, down", 0, bench.release().tick(MIN));
        bench.hand(0).tick(0);
        Check.same("0 to the least", -1, bench.release().tick(MIN));
        bench.numbers(MAX, 0).hand(0).tick(0);
        Check.same("the greatest step up", MAX, bench.release().tick(MAX));
        bench.hand(0).tick(0);
        Check.same("the greatest step down", -MAX, bench.release().tick(MIN));
        Check.same("and the last one", MIN, bench.tick(MIN));
    }

    /** "p below 0 counts as 0)." */
    private static void aRampsPBelow0CountsAs0() {
        int[] values = {MIN, -1, 0};
        for (int value : values) {
            Bench bench = new Bench(Kinds.RAMP).numbers(value, 0);
            Check.same("up by " + value, 0, bench.tick(5));
            Check.same("down by " + value, 0, bench.tick(-5));
            bench.hand(5).tick(0);
            Check.same("there, by " + value, 5, bench.release().tick(5));
        }
    }

    /** "(the hand's, if it was in hand)" */
    private static void aRampGoesOnFromTheHandsValue() {
        Bench bench = new Bench(Kinds.RAMP).numbers(10, 0).safe(300);
        bench.tick(100);
        bench.hand(50).tick(100);
        Check.same("from the hand's value", 60, bench.release().tick(100));
        bench.program.wire(Bench.TESTED, 0, Kinds.NONE);
        bench.hand(70).tick(100);
        bench.program.wire(Bench.TESTED, 0, 0);
        Check.same("from the hand's value that went before the safe one", 80, bench.release().tick(100));
    }

    /** "18 COUNT: the first value ... which is one more if a is not 0 and the second one is 0" */
    private static void aCountIsOneMoreIfTheSecondIs0() {
        Bench bench = new Bench(Kinds.COUNT);
        int[][] steps = {{0, 0}, {MIN, 1}, {MAX, 1}, {-1, 1}, {0, 1}, {-1, 2}, {0, 2}, {0, 2}, {1, 3}};
        for (int[] step : steps) {
            Check.same("COUNT with " + step[0], step[1], bench.tick(step[0], 0));
            Check.same("COUNT's first value", step[1], bench.first());
        }
    }

    /** "with b not 0 it becomes 0 instead" */
    private static void aCountBecomes0WithBNot0() {
        int[] values = {MIN, -1, 1, MAX};
        for (int value : values) {
            Bench bench = new Bench(Kinds.COUNT);
            bench.tick(1, 0);
            Check.same("COUNT with b " + value, 0, bench.tick(0, value));
            Check.same("COUNT with b instead of one more", 0, bench.tick(1, value));
            Check.same("COUNT's first value", 0, bench.first());
        }
    }

    /** "the second one becomes a." */
    private static void aCountsSecondBecomesA() {
        Bench bench = new Bench(Kinds.COUNT);
        int[] values = {MIN, 0, MAX, -1, 0, 0};
        for (int value : values) {
            bench.tick(value, 0);
            Check.same("COUNT's second value", value, bench.second());
            bench.tick(value, 1);
            Check.same("COUNT's second value with b", value, bench.second());
        }
    }

    /** "19 LATCH: 1 if a is not 0, else 0 if b is not 0, else as before (0 or 1: the first value)." */
    private static void aLatchIsAsBefore() {
        Bench bench = new Bench(Kinds.LATCH);
        int[][] steps = {
            {0, 0, 0}, {0, 1, 0}, {MIN, 0, 1}, {0, 0, 1}, {0, MIN, 0}, {0, 0, 0}, {-1, -1, 1}, {0, 0, 1}, {7, 0, 1}
        };
        for (int[] step : steps) {
            Check.same("LATCH with " + step[0] + ", " + step[1], step[2], bench.tick(step[0], step[1]));
            Check.same("LATCH's first value", step[2], bench.first());
            Check.same("LATCH's second value", 0, bench.second());
        }
        bench.hand(55).tick(0, 0);
        Check.same("as before is not the hand's value", 1, bench.release().tick(0, 0));
    }

    /** "20 CLOCK: 1 if p <= m < q, else 0" */
    private static void aClockIsOnFromPToQ() {
        Check.same("from 2 to 4", "0110", clock(2, 4));
        Check.same("from 1 to 1", "0000", clock(1, 1));
        Check.same("from 1 to 2", "1000", clock(1, 2));
        Check.same("from the least to the greatest", "1111", clock(MIN, MAX));
        Check.same("from the least to 2", "1000", clock(MIN, 2));
        Check.same("from 3 to the greatest", "0011", clock(3, MAX));
        Check.same("from the least to the least", "0000", clock(MIN, MIN));
    }

    /** "m being TIME modulo 1440" */
    private static void aClocksTimeIsModulo1440() {
        Bench bench = new Bench(Kinds.CLOCK).numbers(0, 1);
        bench.program.run(500);
        bench.program.run(500);
        bench.program.run(439);
        Check.same("at 1439", 0, bench.out());
        Check.same("at 1440", 1, bench.tick(0));
        Check.same("at 1441", 0, bench.tick(0));
        bench.program.run(500);
        bench.program.run(500);
        bench.program.run(438);
        Check.same("at 2879", 0, bench.out());
        Check.same("at 2880", 1, bench.tick(0));
        Check.same("at 2881", 0, bench.tick(0));
    }

    /** "with p > q: if m >= p or m < q." */
    private static void aClockWithPAboveQ() {
        Check.same("from 4 to 2", "1001", clock(4, 2));
        Check.same("from 3 to 2", "1011", clock(3, 2));
        Check.same("from 3 to 1", "0011", clock(3, 1));
        Check.same("from the greatest to the least", "0000", clock(MAX, MIN));
        Check.same("from the greatest to 3", "1100", clock(MAX, 3));
        Check.same("from 3 to the least", "0011", clock(3, MIN));
    }

    /** "21 PULSE: 1 while the first value is above 0 (which then is one less), else 0" */
    private static void aPulseIsOnWhileTheFirstIsAbove0() {
        Check.same("of 0", "0000", pulse(0, 1, 1, 1, 1));
        Check.same("of 1", "1000", pulse(1, 1, 1, 1, 1));
        Check.same("of 3", "1110", pulse(3, 1, 0, 0, 0));
        Check.same("of -1", "0000", pulse(-1, 1, 1, 0, 1));
        Check.same("of the least", "0000", pulse(MIN, 1, 1, 0, 1));
        Check.same("of the greatest", "1111", pulse(MAX, 1, 1, 0, 0));
        Bench bench = new Bench(Kinds.PULSE).numbers(MAX, 0);
        bench.tick(1);
        Check.same("one less than the greatest", MAX - 1, bench.first());
        bench.numbers(MIN, 0).tick(0);
        bench.tick(1);
        Check.same("the least is none less", MIN, bench.first());
    }

    /** "before, if a is not 0 and the second value is 0, the first one becomes p" */
    private static void aPulseBeginsIfTheSecondIs0() {
        Check.same("not with 0", "0000", pulse(2, 0, 0, 0, 0));
        Check.same("with the least", "1100", pulse(2, MIN, 0, 0, 0));
        Check.same("not again while it is not 0", "1100", pulse(2, 1, -1, 5, 1));
        Check.same("anew before it is over", "1111", pulse(2, 1, 0, 1, 0));
        Bench bench = new Bench(Kinds.PULSE).numbers(9, 0);
        bench.tick(1);
        bench.tick(0);
        bench.numbers(0, 0).tick(1);
        Check.same("a new p of 0 ends it", 0, bench.out());
    }

    /** "the second one becomes a at last." */
    private static void aPulsesSecondBecomesAAtLast() {
        Bench bench = new Bench(Kinds.PULSE).numbers(1, 0);
        int[] values = {MIN, 0, MAX, 5, 0, 0};
        for (int value : values) {
            bench.tick(value);
            Check.same("PULSE's second value", value, bench.second());
        }
    }

    /** "22 LIMIT: a, but p if it is less than p, else q if it is greater than q." */
    private static void aLimitLooksAtPFirst() {
        int[][] table = {
            // p, q, a, due
            {2, 4, 1, 2}, {2, 4, 2, 2}, {2, 4, 3, 3}, {2, 4, 4, 4}, {2, 4, 5, 4}, {4, 2, 3, 4}, {4, 2, 4, 2},
            {4, 2, 5, 2}, {4, 2, 1, 4}, {3, 3, 2, 3}, {3, 3, 4, 3}, {MIN, MAX, MIN, MIN}, {MIN, MAX, MAX, MAX},
            {MAX, MIN, 0, MAX}, {MAX, MIN, MAX, MIN}
        };
        for (int[] row : table) {
            Bench bench = new Bench(Kinds.LIMIT).numbers(row[0], row[1]);
            Check.same("LIMIT " + row[0] + " to " + row[1] + " of " + row[2], row[3], bench.tick(row[2]));
        }
    }

    /** "23 HOLD: the output before (whatever it was: the hand's, the safe value), if b is not 0, else a." */
    private static void aHoldSaysTheOutputBefore() {
        int[] values = {MIN, -1, 1, MAX};
        for (int value : values) {
            Bench bench = new Bench(Kinds.HOLD).safe(300);
            Check.same("before the first tick", 0, bench.tick(9, value));
            bench.tick(9, 0);
            Check.same("its own", 9, bench.tick(4, value));
            bench.hand(50).tick(4, 0);
            Check.same("the hand's", 50, bench.release().tick(4, value));
            bench.program.wire(Bench.TESTED, 1, Kinds.NONE);
            bench.tick(4, 0);
            bench.program.wire(Bench.TESTED, 1, 1);
            Check.same("the safe value", 300, bench.tick(4, value));
            Check.same("else a", 4, bench.tick(4, 0));
        }
    }

    /** "24 SUM: the first value, to which a is added; with b not 0 it becomes 0 instead." */
    private static void aSumBecomes0WithBNot0() {
        int[] values = {MIN, -1, 1, MAX};
        for (int value : values) {
            Bench bench = new Bench(Kinds.SUM);
            Check.same("a sum", 5, bench.tick(5, 0));
            Check.same("0 instead of the sum", 0, bench.tick(5, value));
            Check.same("the first value", 0, bench.first());
            Check.same("the second value", 0, bench.second());
        }
    }

    /** "25 SINCE: the first value, which becomes one more if a is not 0, else 0, but p at most" */
    private static void aSinceIsPAtMost() {
        Bench bench = new Bench(Kinds.SINCE).numbers(2, 0);
        int[][] steps = {{0, 0}, {MIN, 1}, {MAX, 2}, {-1, 2}, {1, 2}, {0, 0}, {1, 1}};
        for (int[] step : steps) {
            Check.same("SINCE with " + step[0], step[1], bench.tick(step[0]));
            Check.same("SINCE's first value", step[1], bench.first());
        }
        Check.same("SINCE with p 0", 0, bench.numbers(0, 0).tick(1));
        Check.same("SINCE with the greatest p", 1, bench.numbers(MAX, 0).tick(1));
        bench.program.run(500);
        Check.same("SINCE 501 ticks", 501, bench.out());
        Check.same("SINCE cut down", 5, bench.numbers(5, 0).tick(1));
    }

    /** "(so p always, if that is below 0)." */
    private static void aSinceIsPAlwaysIfThatIsBelow0() {
        int[] values = {MIN, -2, -1};
        for (int value : values) {
            Bench bench = new Bench(Kinds.SINCE).numbers(value, 0);
            Check.same("with a 0", value, bench.tick(0));
            Check.same("with a not 0", value, bench.tick(1));
            Check.same("again", value, bench.tick(1));
            Check.same("the first value", value, bench.first());
            Check.same("one more than that", value + 1, bench.numbers(MAX, 0).tick(1));
        }
    }

    /** "which becomes one more if a is not 0 ... but p at most": also where p has grown, but is still below 0. */
    private static void aSinceGrowsTowardsAPThatHasGrown() {
        Bench bench = new Bench(Kinds.SINCE).numbers(-5, 0);
        bench.tick(1);
        bench.numbers(-3, 0);
        Check.same("one more than -5", -4, bench.tick(1));
        Check.same("one more than -4", -3, bench.tick(1));
        Check.same("p at most", -3, bench.tick(1));
        Check.same("a lesser p at once", -9, bench.numbers(-9, 0).tick(1));
        Check.same("p at once with a 0", -2, bench.numbers(-2, 0).tick(0));
    }

    /** "Inputs that its kind names must be wired (else NOTHING)" */
    private static void namedInputsMustBeWired() {
        for (int kind = 0; kind <= 25; kind++) {
            String named = Kinds.inputsOf(kind);
            for (int input = 0; input < 3; input++) {
                Bench bench = new Bench(kind, "abc");
                bench.program.wire(Bench.TESTED, input, Kinds.NONE);
                bench.numbers(1, 2).safe(-7).tick(1, 1, 1);
                boolean must = named.indexOf('a' + input) >= 0;
                String what = "kind " + kind + " without input " + input;
                Check.same(what, must ? 1 : 0, bench.program.failed(Kinds.NOTHING));
                Check.same(what + ", output", must, bench.out() == -7);
            }
        }
    }

    /** "14 a, b, c (all three are looked at first)" */
    private static void allThreeOfAChoiceAreLookedAtFirst() {
        Bench withoutC = new Bench(Kinds.CHOICE, "ab").safe(-7);
        Check.same("c is missing, b would be said", -7, withoutC.tick(1, 5, 6));
        Bench withoutB = new Bench(Kinds.CHOICE, "ac").safe(-7);
        Check.same("b is missing, c would be said", -7, withoutB.tick(0, 5, 6));
    }

    /** "Inputs that its kind names must be wired": a missing one is told before the others are looked at. */
    private static void nothingComesBeforeZeroAndBad() {
        Bench over = new Bench(Kinds.OVER, "b");
        over.tick(1, 0);
        Check.same("OVER 0 without a", Kinds.NOTHING, over.program.failure(0, 2));
        Bench rest = new Bench(Kinds.REST, "a");
        rest.tick(1, 0);
        Check.same("REST without b", Kinds.NOTHING, rest.program.failure(0, 2));
        Check.same("one failure a tick", 1, rest.program.failed(0));
    }

    /** What a CLOCK says at the times 1 to 4. */
    private static String clock(int p, int q) {
        Bench bench = new Bench(Kinds.CLOCK).numbers(p, q);
        return "" + bench.tick(0) + bench.tick(0) + bench.tick(0) + bench.tick(0);
    }

    /** What a PULSE says to each a. */
    private static String pulse(int p, int... values) {
        Bench bench = new Bench(Kinds.PULSE).numbers(p, 0);
        StringBuilder said = new StringBuilder();
        for (int value : values) {
            said.append(bench.tick(value));
        }
        return said.toString();
    }
}
