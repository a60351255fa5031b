/** Promises 9 and 10: the order, and what stands at a place in it. */
final class OrderTest {
    private OrderTest() {
    }

    static void run() {
        unwiredBlocksComeByTheirNumbers();
        theLeastOfThoseThatMayComeIsNext();
        onlyInputsThatTheKindNamesCount();
        aDelayComesBehindNone();
        ringsAndThoseBehindThemCannotCome();
        aBlockWiredToItselfIsARing();
        theOrderFollowsEachChange();
        theLongestLine();
        wrongPlacesAreRefused();
        theTickFollowsTheOrder();
    }

    private static void unwiredBlocksComeByTheirNumbers() {
        BlockPrograms x = of(Kinds.ADD, Kinds.NUMBER, Kinds.DELAY, Kinds.CHOICE);
        line("unwired blocks", x, 4, 0, 1, 2, 3);
    }

    private static void theLeastOfThoseThatMayComeIsNext() {
        BlockPrograms x = of(Kinds.NOT, Kinds.NUMBER, Kinds.NOT, Kinds.NUMBER, Kinds.NUMBER);
        x.wire(0, 0, 3);
        x.wire(2, 0, 1);
        // 0 waits for 3, but comes at once behind it, before 4.
        line("least first", x, 5, 1, 2, 3, 0, 4);
        BlockPrograms y = of(Kinds.ADD, Kinds.NOT, Kinds.NOT, Kinds.NUMBER);
        y.wire(0, 0, 1);
        y.wire(0, 1, 2);
        y.wire(1, 0, 3);
        y.wire(2, 0, 3);
        line("behind both inputs", y, 4, 3, 1, 2, 0);
    }

    private static void onlyInputsThatTheKindNamesCount() {
        for (int kind = 0; kind <= 25; kind++) {
            String named = kind == Kinds.DELAY ? "" : Kinds.inputsOf(kind);
            for (int input = 0; input < 3; input++) {
                BlockPrograms x = of(kind, Kinds.NUMBER);
                x.wire(0, input, 1);
                boolean waits = named.indexOf('a' + input) >= 0;
                Check.same("kind " + kind + ", input " + input + " wired to 1: the first", waits ? 1 : 0, x.at(0));
                BlockPrograms y = of(kind);
                y.wire(0, input, 0);
                Check.same("kind " + kind + ", input " + input + " wired to itself", waits ? 0 : 1, y.order());
            }
        }
    }

    private static void aDelayComesBehindNone() {
        BlockPrograms x = of(Kinds.DELAY, Kinds.ADD, Kinds.NUMBER);
        x.wire(0, 0, 1);
        x.wire(1, 0, 0);
        x.wire(1, 1, 2);
        line("a circle through a DELAY", x, 3, 0, 2, 1);
        BlockPrograms y = of(Kinds.NOT, Kinds.DELAY);
        y.wire(0, 0, 1);
        line("others come behind a DELAY", y, 2, 1, 0);
    }

    private static void ringsAndThoseBehindThemCannotCome() {
        BlockPrograms x = of(Kinds.NOT, Kinds.NOT, Kinds.NUMBER, Kinds.NOT, Kinds.NOT, Kinds.NOT);
        x.wire(0, 0, 1);
        x.wire(1, 0, 3);
        x.wire(3, 0, 4);
        x.wire(4, 0, 1);
        x.wire(5, 0, 2);
        line("a ring of 1, 4, 3 and 0 behind it", x, 2, 2, 5, 0, 1, 3, 4);
        BlockPrograms y = of(Kinds.NOT, Kinds.NOT);
        y.wire(0, 0, 1);
        y.wire(1, 0, 0);
        line("all in a ring", y, 0, 0, 1);
    }

    private static void aBlockWiredToItselfIsARing() {
        BlockPrograms x = of(Kinds.NUMBER, Kinds.HOLD, Kinds.NUMBER);
        x.wire(1, 1, 1);
        line("wired to itself", x, 2, 0, 2, 1);
        Check.refusesState("a ring does not run", () -> x.run(1));
    }

    private static void theOrderFollowsEachChange() {
        BlockPrograms x = of(Kinds.NOT, Kinds.NOT);
        line("at first", x, 2, 0, 1);
        x.wire(0, 0, 1);
        line("wired", x, 2, 1, 0);
        x.wire(1, 0, 0);
        line("a ring", x, 0, 0, 1);
        x.become(1, Kinds.DELAY);
        line("a DELAY opens it", x, 2, 1, 0);
        x.become(1, Kinds.NOT);
        line("and a NOT closes it", x, 0, 0, 1);
        x.wire(0, 0, Kinds.NONE);
        line("a wire gone", x, 2, 0, 1);
        x.block(Kinds.NUMBER);
        line("one more", x, 3, 0, 1, 2);
        x.wire(0, 0, 2);
        line("wired to it", x, 3, 2, 0, 1);
        x.become(0, Kinds.NUMBER);
        line("a NUMBER names no input", x, 3, 0, 1, 2);
    }

    private static void theLongestLine() {
        BlockPrograms x = new BlockPrograms();
        for (int i = 0; i < 40; i++) {
            x.block(Kinds.LIMIT);
        }
        for (int i = 0; i < 39; i++) {
            x.wire(i, 0, i + 1);
        }
        Check.same("a line of 40", 40, x.order());
        for (int k = 0; k < 40; k++) {
            Check.same("at(" + k + ")", 39 - k, x.at(k));
        }
        x.wire(39, 0, 0);
        Check.same("a ring of 40", 0, x.order());
        for (int k = 0; k < 40; k++) {
            Check.same("in the ring, at(" + k + ")", k, x.at(k));
        }
    }

    private static void wrongPlacesAreRefused() {
        BlockPrograms x = of(Kinds.NOT, Kinds.NOT);
        x.wire(0, 0, 0);
        Check.refusesArgument("at(-1)", () -> x.at(-1));
        Check.refusesArgument("at(2)", () -> x.at(2));
        Check.refusesArgument("at the least", () -> x.at(Kinds.MIN));
        Check.refusesArgument("at the greatest", () -> x.at(Kinds.MAX));
        Check.same("at(1), in the ring", 0, x.at(1));
    }

    private static void theTickFollowsTheOrder() {
        BlockPrograms x = of(Kinds.NOT, Kinds.NOT, Kinds.NOT, Kinds.NUMBER);
        x.wire(0, 0, 1);
        x.wire(1, 0, 2);
        x.wire(2, 0, 3);
        x.numbers(3, 5, 0);
        x.run(1);
        Check.same("three NOTs of 5 in one tick", 0, x.out(0));
        Check.same("two NOTs of 5", 1, x.out(1));
        Check.same("one NOT of 5", 0, x.out(2));
    }

    private static BlockPrograms of(int... kinds) {
        BlockPrograms x = new BlockPrograms();
        for (int kind : kinds) {
            x.block(kind);
        }
        return x;
    }

    private static void line(String what, BlockPrograms x, int come, int... blocks) {
        Check.same(what + ": order()", come, x.order());
        for (int k = 0; k < blocks.length; k++) {
            Check.same(what + ": at(" + k + ")", blocks[k], x.at(k));
        }
    }
}
