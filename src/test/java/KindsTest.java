/** The kinds 0 to 15, 20 and 22, which reckon without what was before, and NOTHING for all kinds. */
final class KindsTest {
    private static final int MIN = Kinds.MIN;
    private static final int MAX = Kinds.MAX;

    private KindsTest() {
    }

    static void run() {
        points();
        numbers();
        sumsAndProducts();
        quotientsAndRests();
        comparisons();
        truths();
        choices();
        rows();
        clocks();
        limits();
        missingWiresAreNothing();
        wiresThatTheKindDoesNotNameMayBeMissing();
    }

    private static void points() {
        Bench bench = new Bench(Kinds.POINT).safe(-7);
        for (int i = 0; i < 10; i++) {
            bench.program.point(i, 100 + i);
        }
        for (int i = 0; i < 10; i++) {
            Check.same("POINT " + i, 100 + i, bench.numbers(i, 0).tick(0));
        }
        Check.same("points do not fail", 0, bench.program.failed(0));
        failsInAndOutOfHand("POINT 10", bench.numbers(10, 0), 0, 0, Kinds.BAD);
        failsInAndOutOfHand("POINT -1", bench.numbers(-1, 0), 0, 0, Kinds.BAD);
        failsInAndOutOfHand("POINT least", bench.numbers(MIN, 0), 0, 0, Kinds.BAD);
        failsInAndOutOfHand("POINT greatest", bench.numbers(MAX, 0), 0, 0, Kinds.BAD);
        Check.same("POINT 9 again", 109, bench.numbers(9, 0).tick(0));
        Check.same("POINT in hand", 5, bench.hand(5).tick(0));
    }

    private static void numbers() {
        Bench bench = new Bench(Kinds.NUMBER);
        Check.same("NUMBER at first", 0, bench.tick(0));
        Check.same("NUMBER", 12, bench.numbers(12, 13).tick(0));
        Check.same("NUMBER least", MIN, bench.numbers(MIN, 0).tick(0));
        Check.same("NUMBER in hand", 5, bench.hand(5).tick(0));
        Check.same("NUMBER fails not", 0, bench.program.failed(0));
    }

    private static void sumsAndProducts() {
        pair("ADD", Kinds.ADD, 7, 5, 12);
        pair("ADD wraps", Kinds.ADD, MAX, 1, MIN);
        pair("LESS BY", Kinds.LESS_BY, 7, 5, 2);
        pair("LESS BY, the other way", Kinds.LESS_BY, 5, 7, -2);
        pair("LESS BY wraps", Kinds.LESS_BY, MIN, 1, MAX);
        pair("TIMES", Kinds.TIMES, 7, -5, -35);
        pair("TIMES wraps", Kinds.TIMES, 65536, 65536, 0);
        pair("TIMES wraps, too", Kinds.TIMES, MIN, -1, MIN);
    }

    private static void quotientsAndRests() {
        pair("OVER", Kinds.OVER, 7, 2, 3);
        pair("OVER to 0", Kinds.OVER, -7, 2, -3);
        pair("OVER to 0, below", Kinds.OVER, 7, -2, -3);
        pair("OVER wraps", Kinds.OVER, MIN, -1, MIN);
        pair("OVER of 0", Kinds.OVER, 0, 5, 0);
        pair("OVER 1", Kinds.OVER, 9, 1, 9);
        pair("OVER -1", Kinds.OVER, 9, -1, -9);
        pair("REST by 1", Kinds.REST, 9, 1, 0);
        pair("REST", Kinds.REST, 7, 2, 1);
        pair("REST of one below 0", Kinds.REST, -7, 2, -1);
        pair("REST by one below 0", Kinds.REST, 7, -2, 1);
        pair("REST wraps", Kinds.REST, MIN, -1, 0);
        pair("REST by the least", Kinds.REST, MAX, MIN, MAX);
        failsInAndOutOfHand("OVER 0", new Bench(Kinds.OVER).safe(-7), 5, 0, Kinds.ZERO);
        failsInAndOutOfHand("0 OVER 0", new Bench(Kinds.OVER).safe(-7), 0, 0, Kinds.ZERO);
        failsInAndOutOfHand("REST by 0", new Bench(Kinds.REST).safe(-7), 5, 0, Kinds.ZERO);
        failsInAndOutOfHand("least REST by 0", new Bench(Kinds.REST).safe(-7), MIN, 0, Kinds.ZERO);
    }

    private static void comparisons() {
        pair("LEAST", Kinds.LEAST, 3, 8, 3);
        pair("LEAST, the other way", Kinds.LEAST, 8, 3, 3);
        pair("LEAST, far apart", Kinds.LEAST, MIN, MAX, MIN);
        pair("GREATEST", Kinds.GREATEST, 3, 8, 8);
        pair("GREATEST, the other way", Kinds.GREATEST, 8, 3, 8);
        pair("GREATEST, far apart", Kinds.GREATEST, MIN, MAX, MAX);
        pair("BELOW", Kinds.BELOW, 3, 8, 1);
        pair("BELOW, alike", Kinds.BELOW, 8, 8, 0);
        pair("BELOW, the other way", Kinds.BELOW, 8, 3, 0);
        pair("BELOW, far apart", Kinds.BELOW, MIN, MAX, 1);
        pair("BELOW, far apart, the other way", Kinds.BELOW, MAX, MIN, 0);
        pair("ALIKE", Kinds.ALIKE, 1000, 1000, 1);
        pair("ALIKE not", Kinds.ALIKE, 1000, -1000, 0);
    }

    private static void truths() {
        int[][] table = {{0, 0, 0, 0}, {0, -3, 0, 1}, {4, 0, 0, 1}, {4, -3, 1, 1}, {MIN, MIN, 1, 1}, {1, 2, 1, 1}};
        for (int[] row : table) {
            pair("BOTH", Kinds.BOTH, row[0], row[1], row[2]);
            pair("EITHER", Kinds.EITHER, row[0], row[1], row[3]);
        }
        pair("NOT of 0", Kinds.NOT, 0, 0, 1);
        pair("NOT of 1", Kinds.NOT, 1, 0, 0);
        pair("NOT of the least", Kinds.NOT, MIN, 0, 0);
    }

    private static void choices() {
        Bench bench = new Bench(Kinds.CHOICE);
        Check.same("CHOICE, 0", 6, bench.tick(0, 5, 6));
        Check.same("CHOICE, 1", 5, bench.tick(1, 5, 6));
        Check.same("CHOICE, below 0", 5, bench.tick(-1, 5, 6));
        Check.same("CHOICE in hand", 9, bench.hand(9).tick(1, 5, 6));
    }

    private static void rows() {
        Bench bench = new Bench(Kinds.ROW).safe(-7);
        Check.same("ROW at first", 0, bench.tick(7));
        for (int k = 0; k < 8; k++) {
            bench.program.row(Bench.TESTED, k, 100 + k);
        }
        for (int k = 0; k < 8; k++) {
            Check.same("ROW " + k, 100 + k, bench.tick(k));
        }
        Check.same("rows do not fail", 0, bench.program.failed(0));
        failsInAndOutOfHand("ROW 8", bench, 8, 0, Kinds.BAD);
        failsInAndOutOfHand("ROW -1", bench, -1, 0, Kinds.BAD);
        failsInAndOutOfHand("ROW least", bench, MIN, 0, Kinds.BAD);
        failsInAndOutOfHand("ROW greatest", bench, MAX, 0, Kinds.BAD);
    }

    private static void clocks() {
        clock("from 3 to 5", 3, 5, "0011000");
        clock("from 0 to 3", 0, 3, "1100000");
        clock("from 5 to 3", 5, 3, "1100111");
        clock("from 4 to 4", 4, 4, "0000000");
        clock("from -5 to 2", -5, 2, "1000000");
        clock("from 2 to -5", 2, -5, "0111111");
        clock("for ever", MIN, MAX, "1111111");
        Bench bench = new Bench(Kinds.CLOCK).numbers(1439, 1);
        bench.program.run(500);
        bench.program.run(500);
        bench.program.run(438);
        Check.same("CLOCK at 1438", 0, bench.out());
        Check.same("CLOCK at 1439", 1, bench.tick(0));
        Check.same("CLOCK at 1440, which is 0", 1, bench.tick(0));
        Check.same("CLOCK at 1441, which is 1", 0, bench.tick(0));
        bench.program.run(500);
        bench.program.run(500);
        bench.program.run(438);
        Check.same("CLOCK at 2879, which is 1439", 1, bench.out());
        Check.same("CLOCK from 0 to 1 at 2880", 1, bench.numbers(0, 1).tick(0));
        Check.same("CLOCK from 1440 on is never", 0, bench.numbers(1440, 2000).tick(0));
        Check.same("CLOCK in hand", 8, bench.hand(8).tick(0));
    }

    /** What the clock says at the times 1 to 7. */
    private static void clock(String what, int p, int q, String due) {
        Bench bench = new Bench(Kinds.CLOCK).numbers(p, q);
        StringBuilder said = new StringBuilder();
        for (int i = 0; i < due.length(); i++) {
            said.append(bench.tick(0));
        }
        Check.same("CLOCK " + what, due, said.toString());
    }

    private static void limits() {
        Bench bench = new Bench(Kinds.LIMIT).numbers(-3, 5);
        int[][] table = {{-4, -3}, {-3, -3}, {-2, -2}, {0, 0}, {4, 4}, {5, 5}, {6, 5}, {MIN, -3}, {MAX, 5}};
        for (int[] row : table) {
            Check.same("LIMIT of " + row[0], row[1], bench.tick(row[0]));
        }
        bench.numbers(5, -3);
        Check.same("LIMIT crossed, below p", 5, bench.tick(4));
        Check.same("LIMIT crossed, at p", -3, bench.tick(5));
        Check.same("LIMIT crossed, above", -3, bench.tick(6));
        Check.same("LIMIT crossed, below both", 5, bench.tick(-9));
        Check.same("LIMIT in hand", 77, bench.hand(77).tick(0));
    }

    /** Each kind with each set of inputs wired: NOTHING if one is missing that the kind names. */
    private static void missingWiresAreNothing() {
        String[] sets = {"", "a", "b", "c", "ab", "ac", "bc", "abc"};
        for (int kind = 0; kind <= 25; kind++) {
            for (String set : sets) {
                if (hasAll(set, Kinds.inputsOf(kind))) {
                    continue;
                }
                String what = "kind " + kind + " with '" + set + "' wired";
                failsInAndOutOfHand(what, new Bench(kind, set).numbers(50, 0).safe(-7), 1, 0, Kinds.NOTHING);
            }
        }
    }

    private static void wiresThatTheKindDoesNotNameMayBeMissing() {
        for (int kind = 0; kind <= 25; kind++) {
            Bench bench = new Bench(kind);
            bench.tick(3, 2, 1);
            Check.same("kind " + kind + " with its own inputs", 0, bench.program.failed(0));
        }
    }

    private static boolean hasAll(String set, String named) {
        for (int i = 0; i < named.length(); i++) {
            if (set.indexOf(named.charAt(i)) < 0) {
                return false;
            }
        }
        return true;
    }

    /** The output that a pair of inputs gives, and that in hand it is the hand's. */
    private static void pair(String what, int kind, int a, int b, int due) {
        Bench bench = new Bench(kind);
        Check.same(what, due, bench.tick(a, b));
        Check.same(what + ", in hand", 31, bench.hand(31).tick(a, b));
        Check.same(what + ", not in hand again", due, bench.release().tick(a, b));
        Check.same(what + ", failures", 0, bench.program.failed(0));
    }

    /** A failure with the safe value -7: not in hand, then in hand, then not again. */
    private static void failsInAndOutOfHand(String what, Bench bench, int a, int b, int kind) {
        int before = bench.program.failed(kind);
        int all = bench.program.failed(0);
        int first = bench.first();
        int second = bench.second();
        Check.same(what + ": the safe value", -7, bench.tick(a, b));
        Check.same(what + ": the hand's value", 31, bench.hand(31).tick(a, b));
        Check.same(what + ": it failed in hand, too", before + 2, bench.program.failed(kind));
        Check.same(what + ": which kind", kind, bench.program.failure(0, 2));
        Check.same(what + ": which block", Bench.TESTED, bench.program.failure(0, 1));
        Check.same(what + ": the safe value again", -7, bench.release().tick(a, b));
        Check.same(what + ": no other failure", all + 3, bench.program.failed(0));
        Check.same(what + ": the first value stays", first, bench.first());
        Check.same(what + ": the second value stays", second, bench.second());
    }
}
