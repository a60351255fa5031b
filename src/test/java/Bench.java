/** One block under test, number 3, fed by the NUMBER blocks 0, 1 and 2. */
final class Bench {
    static final int TESTED = 3;

    final BlockPrograms program = new BlockPrograms();

    /** Wires the inputs named in a text such as "ac". */
    Bench(int kind, String inputs) {
        for (int i = 0; i < 3; i++) {
            program.block(Kinds.NUMBER);
        }
        program.block(kind);
        for (int i = 0; i < inputs.length(); i++) {
            int input = inputs.charAt(i) - 'a';
            program.wire(TESTED, input, input);
        }
    }

    Bench(int kind) {
        this(kind, Kinds.inputsOf(kind));
    }

    Bench numbers(int p, int q) {
        program.numbers(TESTED, p, q);
        return this;
    }

    Bench safe(int v) {
        program.safe(TESTED, v);
        return this;
    }

    Bench hand(int v) {
        program.hand(TESTED, true, v);
        return this;
    }

    Bench release() {
        program.hand(TESTED, false, 0);
        return this;
    }

    int tick(int a, int b, int c) {
        program.numbers(0, a, 0);
        program.numbers(1, b, 0);
        program.numbers(2, c, 0);
        program.run(1);
        return out();
    }

    int tick(int a, int b) {
        return tick(a, b, 0);
    }

    int tick(int a) {
        return tick(a, 0, 0);
    }

    int out() {
        return program.out(TESTED);
    }

    int first() {
        return program.state(TESTED, 0);
    }

    int second() {
        return program.state(TESTED, 1);
    }
}
