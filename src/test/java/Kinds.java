/** The kinds and failures by the names that the document gives them. */
final class Kinds {
    static final int POINT = 0;
    static final int NUMBER = 1;
    static final int ADD = 2;
    static final int LESS_BY = 3;
    static final int TIMES = 4;
    static final int OVER = 5;
    static final int REST = 6;
    static final int LEAST = 7;
    static final int GREATEST = 8;
    static final int BELOW = 9;
    static final int ALIKE = 10;
    static final int BOTH = 11;
    static final int EITHER = 12;
    static final int NOT = 13;
    static final int CHOICE = 14;
    static final int ROW = 15;
    static final int DELAY = 16;
    static final int RAMP = 17;
    static final int COUNT = 18;
    static final int LATCH = 19;
    static final int CLOCK = 20;
    static final int PULSE = 21;
    static final int LIMIT = 22;
    static final int HOLD = 23;
    static final int SUM = 24;
    static final int SINCE = 25;

    static final int ZERO = 1;
    static final int BAD = 2;
    static final int NOTHING = 3;

    static final int NONE = BlockPrograms.NONE;
    static final int MIN = Integer.MIN_VALUE;
    static final int MAX = Integer.MAX_VALUE;

    private Kinds() {
    }

    /** Which inputs a kind names, as the document's last line about kinds has them. */
    static String inputsOf(int kind) {
        if (kind >= ADD && kind <= EITHER) {
            return "ab";
        }
        switch (kind) {
            case CHOICE:
                return "abc";
            case NOT:
            case ROW:
            case DELAY:
            case RAMP:
            case PULSE:
            case LIMIT:
            case SINCE:
                return "a";
            case COUNT:
            case LATCH:
            case HOLD:
            case SUM:
                return "ab";
            default:
                return "";
        }
    }
}
