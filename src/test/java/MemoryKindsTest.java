/** The kinds 16 to 19, 21 and 23 to 25, which go on from an output or a state before. */
final class MemoryKindsTest {
    private static final int MIN = Kinds.MIN;
    private static final int MAX = Kinds.MAX;

    private MemoryKindsTest() {
    }

    static void run() {
        delays();
        delaysTakeByTheirNumbers();
        delaysFailBehindAllOthers();
        delaysInHand();
        ramps();
        rampsGoOnFromTheOutputBefore();
        counts();
        latches();
        pulses();
        holds();
        sums();
        since();
        statesGoOnInHand();
        statesStayInFailure();
    }

    private static void delays() {
        Bench bench = new Bench(Kinds.DELAY);
        Check.same("DELAY says 0 at first", 0, bench.tick(5));
        Check.same("DELAY took", 5, bench.first());
        Check.same("DELAY says what it took", 5, bench.tick(-6));
        Check.same("DELAY took then", -6, bench.first());
        Check.same("DELAY says that, too", -6, bench.tick(MIN));
        Check.same("DELAY's second value", 0, bench.second());
        BlockPrograms x = new BlockPrograms();
        x.block(Kinds.DELAY);
        x.wire(0, 0, 0);
        Check.same("DELAY of itself", 3, x.run(3));
        Check.same("DELAY of itself says", 0, x.out(0));
        x.hand(0, true, 8);
        x.run(1);
        Check.same("DELAY of itself took the hand's value", 8, x.state(0, 0));
    }

    private static void delaysTakeByTheirNumbers() {
        BlockPrograms x = new BlockPrograms();
        x.block(Kinds.DELAY);
        x.block(Kinds.DELAY);
        x.block(Kinds.DELAY);
        x.block(Kinds.NUMBER);
        x.wire(0, 0, 1);
        x.wire(1, 0, 2);
        x.wire(2, 0, 3);
        x.numbers(3, 4, 0);
        x.run(2);
        Check.same("a chain of DELAYs, the last", 4, x.out(2));
        Check.same("the middle took it", 4, x.state(1, 0));
        Check.same("the middle says nothing yet", 0, x.out(1));
        x.run(1);
        Check.same("the middle", 4, x.out(1));
        Check.same("the first took it", 4, x.state(0, 0));
        x.safe(1, 66);
        x.wire(1, 0, Kinds.NONE);
        x.wire(2, 0, 1);
        x.run(1);
        // 0 takes before 1 fails, 2 behind it.
        Check.same("one before the failing", 4, x.state(0, 0));
        Check.same("the failing says the safe value", 66, x.out(1));
        Check.same("one behind the failing", 66, x.state(2, 0));
        Check.same("the failing one's state stays", 4, x.state(1, 0));
    }

    private static void delaysFailBehindAllOthers() {
        BlockPrograms x = new BlockPrograms();
        x.block(Kinds.DELAY);
        x.block(Kinds.LIMIT);
        x.block(Kinds.NUMBER);
        x.numbers(1, MIN, MAX);
        x.wire(1, 0, 0);
        x.wire(0, 0, 2);
        x.numbers(2, 9, 0);
        x.run(2);
        x.wire(0, 0, Kinds.NONE);
        x.safe(0, 66);
        x.run(1);
        Check.same("those behind read the state", 9, x.out(1));
        Check.same("then it says the safe value", 66, x.out(0));
        Check.same("its state stays", 9, x.state(0, 0));
        Check.same("one failure", 1, x.failed(Kinds.NOTHING));
        x.run(1);
        Check.same("those behind read the state again", 9, x.out(1));
        x.wire(0, 0, 2);
        x.run(1);
        Check.same("wired again", 9, x.out(0));
    }

    private static void delaysInHand() {
        Bench bench = new Bench(Kinds.DELAY).hand(31);
        BlockPrograms x = bench.program;
        x.block(Kinds.NOT);
        x.wire(4, 0, Bench.TESTED);
        Check.same("DELAY in hand", 31, bench.tick(5));
        Check.same("it takes in hand, too", 5, bench.first());
        Check.same("those behind read the hand's value", 0, x.out(4));
        Check.same("it says what it took", 5, bench.release().tick(6));
        x.wire(Bench.TESTED, 0, Kinds.NONE);
        bench.safe(66).hand(0);
        Check.same("failing in hand", 0, bench.tick(7));
        Check.same("it failed", 1, x.failed(Kinds.NOTHING));
        Check.same("those behind read the hand's value again", 1, x.out(4));
        Check.same("its state stays", 6, bench.first());
    }

    private static void ramps() {
        Bench bench = new Bench(Kinds.RAMP).numbers(10, 0);
        Check.same("RAMP up", 10, bench.tick(25));
        Check.same("RAMP up, 15 away", 20, bench.tick(25));
        Check.same("RAMP up, 5 away", 25, bench.tick(25));
        Check.same("RAMP there", 25, bench.tick(25));
        Check.same("RAMP down, 11 away", 15, bench.tick(14));
        Check.same("RAMP down, 10 away", 5, bench.tick(5));
        Check.same("RAMP up, 10 away", 15, bench.tick(15));
        Check.same("RAMP with p 0", 15, bench.numbers(0, 0).tick(99));
        Check.same("RAMP with p 0, there", 15, bench.tick(15));
        Check.same("RAMP with p below 0", 15, bench.numbers(-5, 0).tick(99));
        Check.same("RAMP with the least p", 15, bench.numbers(MIN, 0).tick(99));
        bench.numbers(MAX, 0);
        Check.same("RAMP to the greatest", MAX, bench.tick(MAX));
        Check.same("RAMP down, too far for 32 bits", 0, bench.tick(MIN));
        Check.same("RAMP down, 1 too far", -MAX, bench.tick(MIN));
        Check.same("RAMP at the least", MIN, bench.tick(MIN));
        Check.same("RAMP up, too far for 32 bits", -1, bench.tick(MAX));
        bench.numbers(1, 0).hand(MIN).tick(0);
        Check.same("RAMP by 1, the farthest way", MIN + 1, bench.release().tick(MAX));
        Check.same("RAMP keeps no state", 0, bench.first());
    }

    private static void rampsGoOnFromTheOutputBefore() {
        Bench bench = new Bench(Kinds.RAMP).numbers(10, 0).safe(1000);
        Check.same("RAMP in hand", 500, bench.hand(500).tick(25));
        Check.same("RAMP from the hand's value", 490, bench.release().tick(25));
        bench.hand(700).release();
        Check.same("a hand without a tick was none", 480, bench.tick(25));
        bench.program.wire(Bench.TESTED, 0, Kinds.NONE);
        Check.same("RAMP failing", 1000, bench.tick(25));
        bench.program.wire(Bench.TESTED, 0, 0);
        Check.same("RAMP from the safe value", 990, bench.tick(25));
        bench.program.become(Bench.TESTED, Kinds.RAMP);
        Check.same("RAMP anew", 10, bench.tick(25));
    }

    private static void counts() {
        Bench bench = new Bench(Kinds.COUNT);
        Check.same("COUNT, 0", 0, bench.tick(0, 0));
        Check.same("COUNT, one", 1, bench.tick(5, 0));
        Check.same("COUNT's second value", 5, bench.second());
        Check.same("COUNT, still", 1, bench.tick(-2, 0));
        Check.same("COUNT's second value then", -2, bench.second());
        Check.same("COUNT, off", 1, bench.tick(0, 0));
        Check.same("COUNT, two", 2, bench.tick(1, 0));
        Check.same("COUNT, back to 0", 0, bench.tick(1, 7));
        Check.same("COUNT's first value", 0, bench.first());
        bench.tick(0, 0);
        Check.same("COUNT, up and back at once", 0, bench.tick(3, -1));
        Check.same("COUNT's second value, too", 3, bench.second());
        Check.same("COUNT, no edge behind it", 0, bench.tick(3, 0));
        bench.tick(0, 0);
        Check.same("COUNT anew", 1, bench.tick(4, 0));
    }

    private static void latches() {
        Bench bench = new Bench(Kinds.LATCH);
        Check.same("LATCH at first", 0, bench.tick(0, 0));
        Check.same("LATCH on", 1, bench.tick(-5, 0));
        Check.same("LATCH as before", 1, bench.tick(0, 0));
        Check.same("LATCH off", 0, bench.tick(0, 9));
        Check.same("LATCH as before, off", 0, bench.tick(0, 0));
        Check.same("LATCH, a before b", 1, bench.tick(3, 9));
        Check.same("LATCH's first value", 1, bench.first());
        Check.same("LATCH's second value", 0, bench.second());
        Check.same("LATCH in hand", 0, bench.hand(0).tick(0, 0));
        Check.same("LATCH as before, not the hand's", 1, bench.release().tick(0, 0));
        bench.safe(44).program.wire(Bench.TESTED, 1, Kinds.NONE);
        Check.same("LATCH failing", 44, bench.tick(0, 0));
        bench.program.wire(Bench.TESTED, 1, 1);
        Check.same("LATCH as before, not the safe value", 1, bench.tick(0, 0));
    }

    private static void pulses() {
        Bench bench = new Bench(Kinds.PULSE).numbers(3, 0);
        int[][] steps = {
            // a, output, first value
            {0, 0, 0}, {5, 1, 2}, {5, 1, 1}, {5, 1, 0}, {5, 0, 0}, {0, 0, 0}, {-1, 1, 2}, {0, 1, 1}, {7, 1, 2},
            {0, 1, 1}, {0, 1, 0}, {0, 0, 0}
        };
        for (int[] step : steps) {
            Check.same("PULSE with " + step[0], step[1], bench.tick(step[0]));
            Check.same("PULSE's first value", step[2], bench.first());
            Check.same("PULSE's second value", step[0], bench.second());
        }
        Check.same("PULSE of 1", 1, bench.numbers(1, 0).tick(1));
        Check.same("PULSE of 1, over", 0, bench.tick(1));
        bench.tick(0);
        Check.same("PULSE of 0", 0, bench.numbers(0, 0).tick(1));
        Check.same("PULSE of 0, first value", 0, bench.first());
        bench.tick(0);
        Check.same("PULSE below 0", 0, bench.numbers(-4, 0).tick(1));
        Check.same("PULSE below 0, first value", -4, bench.first());
        Check.same("PULSE below 0, later", 0, bench.tick(1));
        Check.same("PULSE below 0, first value later", -4, bench.first());
    }

    private static void holds() {
        Bench bench = new Bench(Kinds.HOLD).safe(1000);
        Check.same("HOLD at first", 0, bench.tick(5, 1));
        Check.same("HOLD not", 5, bench.tick(5, 0));
        Check.same("HOLD", 5, bench.tick(6, -1));
        Check.same("HOLD still", 5, bench.tick(7, 1));
        Check.same("HOLD in hand", 55, bench.hand(55).tick(8, 1));
        Check.same("HOLD the hand's value", 55, bench.release().tick(8, 1));
        bench.program.wire(Bench.TESTED, 0, Kinds.NONE);
        Check.same("HOLD failing", 1000, bench.tick(8, 1));
        bench.program.wire(Bench.TESTED, 0, 0);
        Check.same("HOLD the safe value", 1000, bench.tick(8, 1));
        Check.same("HOLD no more", 8, bench.tick(8, 0));
        Check.same("HOLD keeps no state", 0, bench.first());
    }

    private static void sums() {
        Bench bench = new Bench(Kinds.SUM);
        Check.same("SUM", 5, bench.tick(5, 0));
        Check.same("SUM less", -2, bench.tick(-7, 0));
        Check.same("SUM back to 0", 0, bench.tick(9, -1));
        Check.same("SUM's first value", 0, bench.first());
        Check.same("SUM's second value", 0, bench.second());
        Check.same("SUM to the greatest", MAX, bench.tick(MAX, 0));
        Check.same("SUM wraps", MIN, bench.tick(1, 0));
        Check.same("SUM in hand", 31, bench.hand(31).tick(1, 0));
        Check.same("SUM went on in hand", MIN + 2, bench.release().tick(1, 0));
    }

    private static void since() {
        Bench bench = new Bench(Kinds.SINCE).numbers(3, 0);
        int[][] steps = {{1, 1}, {-5, 2}, {1, 3}, {1, 3}, {0, 0}, {1, 1}};
        for (int[] step : steps) {
            Check.same("SINCE with " + step[0], step[1], bench.tick(step[0]));
            Check.same("SINCE's first value", step[1], bench.first());
        }
        Check.same("SINCE with p 0", 0, bench.numbers(0, 0).tick(1));
        Check.same("SINCE with p below 0", -4, bench.numbers(-4, 0).tick(1));
        Check.same("SINCE with p below 0 and a 0", -4, bench.tick(0));
        Check.same("SINCE from below 0", -3, bench.numbers(9, 0).tick(1));
        Check.same("SINCE to 0", 0, bench.tick(0));
        bench.tick(1);
        bench.tick(1);
        bench.tick(1);
        Check.same("SINCE with a lesser p", 2, bench.numbers(2, 0).tick(1));
        Check.same("SINCE with the greatest p", 3, bench.numbers(MAX, 0).tick(1));
        Check.same("SINCE with the least p", MIN, bench.numbers(MIN, 0).tick(1));
        Check.same("SINCE's second value", 0, bench.second());
    }

    private static void statesGoOnInHand() {
        int[] kinds = {Kinds.DELAY, Kinds.COUNT, Kinds.LATCH, Kinds.PULSE, Kinds.SUM, Kinds.SINCE};
        for (int kind : kinds) {
            Bench own = new Bench(kind).numbers(20, 0);
            Bench held = new Bench(kind).numbers(20, 0).hand(31);
            for (int i = 0; i < 12; i++) {
                int a = i % 3;
                int b = i == 7 ? 1 : 0;
                own.tick(a, b);
                Check.same("kind " + kind + " in hand", 31, held.tick(a, b));
                Check.same("kind " + kind + " in hand, first value", own.first(), held.first());
                Check.same("kind " + kind + " in hand, second value", own.second(), held.second());
            }
            Check.same("kind " + kind + " out of hand", own.tick(1, 0), held.release().tick(1, 0));
        }
    }

    private static void statesStayInFailure() {
        int[] kinds = {Kinds.DELAY, Kinds.COUNT, Kinds.LATCH, Kinds.PULSE, Kinds.SUM, Kinds.SINCE};
        for (int kind : kinds) {
            Bench bench = new Bench(kind).numbers(20, 0).safe(-7);
            bench.tick(2, 0);
            int first = bench.first();
            int second = bench.second();
            Check.same("kind " + kind + " has a state", true, first != 0);
            bench.program.wire(Bench.TESTED, 0, Kinds.NONE);
            Check.same("kind " + kind + " failing", -7, bench.tick(3, 1));
            Check.same("kind " + kind + " failing in hand", 31, bench.hand(31).tick(3, 1));
            Check.same("kind " + kind + " failing, first value", first, bench.first());
            Check.same("kind " + kind + " failing, second value", second, bench.second());
        }
    }
}
