import java.util.ArrayList;
import java.util.List;
import java.util.function.Consumer;

/** A call that throws changes nothing: whatever can be seen of an object is as on one without that call. */
final class RefusalsTest {
    private static final int[] FAR = {Kinds.MIN, -2, 500, Kinds.MAX};
    /** A look at more blocks would take an object beyond its 512 calls. */
    private static final int MOST_SHOWN = 5;

    private RefusalsTest() {
    }

    static void run() {
        List<Consumer<BlockPrograms>> calls = refusedCalls();
        String untouched = story(mixed());
        for (int i = 0; i < calls.size(); i++) {
            BlockPrograms x = mixed();
            Consumer<BlockPrograms> call = calls.get(i);
            Check.refusesArgument("refused call " + i, () -> call.accept(x));
            Check.same("what stands behind refused call " + i, untouched, story(x));
        }
        aFullObjectStays();
        aRingStays();
        theEndStays();
    }

    private static List<Consumer<BlockPrograms>> refusedCalls() {
        List<Consumer<BlockPrograms>> calls = new ArrayList<>();
        for (int far : FAR) {
            calls.add(x -> x.block(far));
            calls.add(x -> x.wire(far, 0, 0));
            calls.add(x -> x.wire(3, far, 0));
            calls.add(x -> x.wire(3, 0, far));
            calls.add(x -> x.numbers(far, 1, 1));
            calls.add(x -> x.row(far, 1, 1));
            calls.add(x -> x.row(4, far, 1));
            calls.add(x -> x.safe(far, 1));
            calls.add(x -> x.point(far, 1));
            calls.add(x -> x.hand(far, true, 1));
            calls.add(x -> x.at(far));
            calls.add(x -> x.out(far));
            calls.add(x -> x.state(far, 0));
            calls.add(x -> x.state(3, far));
            calls.add(x -> x.failed(far));
            calls.add(x -> x.failure(far, 0));
            calls.add(x -> x.failure(0, far));
            calls.add(x -> x.back(far));
            calls.add(x -> x.become(far, 1));
            calls.add(x -> x.become(3, far));
        }
        addNearest(calls);
        calls.add(x -> x.run(0));
        calls.add(x -> x.run(501));
        calls.add(x -> x.run(Kinds.MIN));
        calls.add(x -> x.run(Kinds.MAX));
        return calls;
    }

    /** The first wrong value on each side: there are five blocks, three failures and one saving. */
    private static void addNearest(List<Consumer<BlockPrograms>> calls) {
        for (int block = -1; block <= 5; block += 6) {
            int none = block;
            calls.add(x -> x.wire(none, 0, 0));
            calls.add(x -> x.numbers(none, 1, 1));
            calls.add(x -> x.row(none, 1, 1));
            calls.add(x -> x.safe(none, 1));
            calls.add(x -> x.hand(none, true, 1));
            calls.add(x -> x.at(none));
            calls.add(x -> x.out(none));
            calls.add(x -> x.state(none, 0));
            calls.add(x -> x.become(none, 1));
        }
        calls.add(x -> x.wire(3, 0, 5));
        calls.add(x -> x.wire(3, -1, 0));
        calls.add(x -> x.wire(3, 3, 0));
        calls.add(x -> x.block(-1));
        calls.add(x -> x.block(26));
        calls.add(x -> x.become(3, -1));
        calls.add(x -> x.become(3, 26));
        calls.add(x -> x.row(4, -1, 1));
        calls.add(x -> x.row(4, 8, 1));
        calls.add(x -> x.row(3, 8, 1));
        calls.add(x -> x.point(-1, 1));
        calls.add(x -> x.point(10, 1));
        calls.add(x -> x.state(3, -1));
        calls.add(x -> x.state(3, 2));
        calls.add(x -> x.failed(-1));
        calls.add(x -> x.failed(4));
        calls.add(x -> x.failure(-1, 0));
        calls.add(x -> x.failure(3, 0));
        calls.add(x -> x.failure(0, -1));
        calls.add(x -> x.failure(0, 3));
        calls.add(x -> x.back(-1));
        calls.add(x -> x.back(1));
    }

    private static void aFullObjectStays() {
        BlockPrograms x = mixed();
        BlockPrograms twin = mixed();
        fill(x);
        fill(twin);
        Check.refusesState("block 40", () -> x.block(1));
        Check.refusesState("a sixth saving", () -> x.save());
        Check.refusesState("row of no ROW", () -> x.row(3, 1, 1));
        Check.refusesArgument("a wrong kind, and 40 blocks", () -> x.block(26));
        Check.refusesArgument("saving 5", () -> x.back(5));
        Check.same("a full object stays", story(twin), story(x));
    }

    private static void fill(BlockPrograms x) {
        for (int i = 5; i < 40; i++) {
            x.block(Kinds.DELAY);
        }
        for (int i = 1; i < 5; i++) {
            x.save();
        }
    }

    private static void aRingStays() {
        BlockPrograms x = mixed();
        BlockPrograms twin = mixed();
        x.wire(2, 1, 2);
        twin.wire(2, 1, 2);
        Check.refusesState("a ring", () -> x.run(1));
        Check.refusesState("a ring, 500 ticks", () -> x.run(500));
        x.wire(2, 1, 1);
        twin.wire(2, 1, 1);
        Check.same("a ring stays", story(twin), story(x));
    }

    /** One tick before the end, which both then come to. */
    private static void theEndStays() {
        BlockPrograms x = mixed();
        BlockPrograms twin = mixed();
        runOn(x);
        runOn(twin);
        Check.refusesState("3001", () -> x.run(2));
        Check.refusesState("3499", () -> x.run(500));
        Check.refusesArgument("501 ticks before the end", () -> x.run(501));
        Check.same("the end stays", story(twin), story(x));
    }

    private static void runOn(BlockPrograms x) {
        for (int i = 0; i < 5; i++) {
            x.run(500);
        }
        Check.same("one tick before the end", 2999, x.run(496));
    }

    /** 0, 1 NUMBERS, 2 ADD in hand, 3 COUNT, 4 ROW that fails; saved, then run on. */
    private static BlockPrograms mixed() {
        BlockPrograms x = new BlockPrograms();
        x.block(Kinds.NUMBER);
        x.block(Kinds.NUMBER);
        x.block(Kinds.ADD);
        x.block(Kinds.COUNT);
        x.block(Kinds.ROW);
        x.numbers(0, 12, 1);
        x.numbers(1, 0, 2);
        x.wire(2, 0, 0);
        x.wire(2, 1, 1);
        x.wire(3, 0, 0);
        x.wire(3, 1, 1);
        x.wire(4, 0, 2);
        x.row(4, 3, 33);
        x.safe(4, 44);
        x.point(5, 55);
        x.hand(2, true, 22);
        x.run(1);
        x.save();
        x.numbers(0, 0, 1);
        x.run(2);
        return x;
    }

    /** All that can be seen of an object, seen by calls that may change it. */
    private static String story(BlockPrograms x) {
        StringBuilder text = new StringBuilder();
        text.append("order ").append(x.order());
        int blocks = 0;
        while (blocks < 41 && has(x, blocks)) {
            blocks++;
        }
        text.append(" of ").append(blocks);
        blocks = Math.min(blocks, MOST_SHOWN);
        show(text, x, blocks);
        text.append(" time ").append(x.run(1));
        show(text, x, blocks);
        text.append(" back ").append(x.back(0));
        show(text, x, blocks);
        text.append(Check.outcome(() -> x.save()));
        for (int i = 0; i < 10; i++) {
            text.append(" point ").append(x.point(i, 0));
        }
        for (int i = 0; i < blocks; i++) {
            text.append(" block ").append(i).append(" wires ");
            for (int input = 0; input < 3; input++) {
                text.append(x.wire(i, input, Kinds.NONE)).append(' ');
            }
            text.append(x.safe(i, 0)).append(' ').append(x.hand(i, false, 0)).append(' ');
            text.append("kind ").append(x.become(i, Kinds.ROW));
            for (int k = 0; k < 8; k++) {
                text.append(' ').append(x.row(i, k, 0));
            }
        }
        return text.toString();
    }

    private static boolean has(BlockPrograms x, int block) {
        return Check.outcome(() -> x.out(block)).equals("nothing");
    }

    private static void show(StringBuilder text, BlockPrograms x, int blocks) {
        for (int i = 0; i < blocks; i++) {
            text.append(" at ").append(x.at(i)).append(" out ").append(x.out(i));
            text.append(" state ").append(x.state(i, 0)).append(' ').append(x.state(i, 1));
        }
        for (int kind = 0; kind <= 3; kind++) {
            text.append(" failed ").append(x.failed(kind));
        }
        for (int k = 0; k < Math.min(32, x.failed(0)); k++) {
            text.append(" failure ").append(x.failure(k, 0));
            text.append(' ').append(x.failure(k, 1)).append(' ').append(x.failure(k, 2));
        }
    }
}
