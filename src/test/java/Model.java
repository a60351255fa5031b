import java.util.ArrayList;
import java.util.List;

/**
 * The document once more, in a form as unlike the program's as may be: numbers in 64 bits cut to 32, an order by
 * sets, savings as copies, failures in one long list. Tests alone use it.
 */
final class Model {
    /** What a kind names as inputs, by its number. */
    private static final String[] NAMED = {
        "", "", "ab", "ab", "ab", "ab", "ab", "ab", "ab", "ab", "ab", "ab", "ab", "a", "abc",
        "a", "a", "a", "ab", "ab", "", "a", "a", "ab", "ab", "a"
    };

    private static final class Part {
        int kind;
        long p;
        long q;
        long safe;
        long out;
        long first;
        long second;
        Long hand;
        Integer[] wires = new Integer[3];
        long[] row = new long[8];
    }

    private record Kept(int kind, long out, long first, long second) {
    }

    private record Failure(int tick, int block, int kind) {
    }

    private final List<Part> parts = new ArrayList<>();
    private final long[] points = new long[10];
    private int time = 0;
    private final List<Failure> failures = new ArrayList<>();
    private final List<List<Kept>> savings = new ArrayList<>();

    int block(int kind) {
        argument(kind >= 0 && kind <= 25);
        state(parts.size() < 40);
        Part part = new Part();
        part.kind = kind;
        parts.add(part);
        return parts.indexOf(part);
    }

    int wire(int block, int input, int to) {
        Part part = part(block);
        argument(input >= 0 && input <= 2);
        argument(to >= -1 && to < parts.size());
        Integer was = part.wires[input];
        part.wires[input] = to == -1 ? null : Integer.valueOf(to);
        return was == null ? -1 : was;
    }

    void numbers(int block, int p, int q) {
        Part part = part(block);
        part.p = p;
        part.q = q;
    }

    int row(int block, int k, int v) {
        Part part = part(block);
        argument(k >= 0 && k <= 7);
        state(part.kind == 15);
        long was = part.row[k];
        part.row[k] = v;
        return (int) was;
    }

    int safe(int block, int v) {
        Part part = part(block);
        long was = part.safe;
        part.safe = v;
        return (int) was;
    }

    int point(int point, int v) {
        argument(point >= 0 && point <= 9);
        long was = points[point];
        points[point] = v;
        return (int) was;
    }

    boolean hand(int block, boolean on, int v) {
        Part part = part(block);
        boolean was = part.hand != null;
        part.hand = on ? Long.valueOf(v) : null;
        return was;
    }

    int order() {
        return coming().size();
    }

    int at(int k) {
        argument(k >= 0 && k < parts.size());
        List<Integer> all = coming();
        for (int i = 0; i < parts.size(); i++) {
            if (!all.contains(i)) {
                all.add(i);
            }
        }
        return all.get(k);
    }

    int run(int n) {
        argument(n >= 1 && n <= 500);
        List<Integer> order = coming();
        state(order.size() == parts.size());
        state(time + n <= 3000);
        for (int i = 0; i < n; i++) {
            time++;
            for (int number : order) {
                reckon(number);
            }
            for (int number = 0; number < parts.size(); number++) {
                takeUp(number);
            }
        }
        return time;
    }

    int out(int block) {
        return (int) part(block).out;
    }

    int state(int block, int what) {
        Part part = part(block);
        argument(what == 0 || what == 1);
        return (int) (what == 0 ? part.first : part.second);
    }

    int failed(int kind) {
        argument(kind >= 0 && kind <= 3);
        int found = 0;
        for (Failure failure : failures) {
            if (kind == 0 || failure.kind == kind) {
                found++;
            }
        }
        return found;
    }

    int failure(int k, int what) {
        argument(k >= 0 && k < 32 && k < failures.size());
        argument(what >= 0 && what <= 2);
        Failure failure = failures.get(failures.size() - 1 - k);
        return List.of(failure.tick, failure.block, failure.kind).get(what);
    }

    int save() {
        state(savings.size() < 5);
        List<Kept> saving = new ArrayList<>();
        for (Part part : parts) {
            saving.add(new Kept(part.kind, part.out, part.first, part.second));
        }
        savings.add(saving);
        return savings.size() - 1;
    }

    int back(int saved) {
        argument(saved >= 0 && saved < savings.size());
        int came = 0;
        List<Kept> saving = savings.get(saved);
        for (int i = 0; i < saving.size(); i++) {
            Part part = parts.get(i);
            Kept kept = saving.get(i);
            if (part.kind == kept.kind) {
                part.out = kept.out;
                part.first = kept.first;
                part.second = kept.second;
                came++;
            }
        }
        return came;
    }

    int become(int block, int kind) {
        Part part = part(block);
        argument(kind >= 0 && kind <= 25);
        int was = part.kind;
        part.kind = kind;
        part.out = 0;
        part.first = 0;
        part.second = 0;
        return was;
    }

    private static void argument(boolean good) {
        if (!good) {
            throw new IllegalArgumentException();
        }
    }

    private static void state(boolean good) {
        if (!good) {
            throw new IllegalStateException();
        }
    }

    private Part part(int block) {
        argument(block >= 0 && block < parts.size());
        return parts.get(block);
    }

    private List<Integer> coming() {
        List<Integer> come = new ArrayList<>();
        boolean grew = true;
        while (grew) {
            grew = false;
            for (int i = 0; i < parts.size() && !grew; i++) {
                if (!come.contains(i) && come.containsAll(sources(i))) {
                    come.add(i);
                    grew = true;
                }
            }
        }
        return come;
    }

    private List<Integer> sources(int number) {
        Part part = parts.get(number);
        List<Integer> sources = new ArrayList<>();
        for (char input : NAMED[part.kind].toCharArray()) {
            Integer source = part.wires[input - 'a'];
            if (source != null && part.kind != 16) {
                sources.add(source);
            }
        }
        return sources;
    }

    private void takeUp(int number) {
        Part part = parts.get(number);
        if (part.kind != 16) {
            return;
        }
        if (part.wires[0] == null) {
            failures.add(new Failure(time, number, 3));
            part.out = part.hand != null ? part.hand : part.safe;
        } else {
            part.first = parts.get(part.wires[0]).out;
        }
    }

    private void reckon(int number) {
        Part part = parts.get(number);
        int failure = failing(part);
        long said;
        if (failure != 0) {
            failures.add(new Failure(time, number, failure));
            said = part.safe;
        } else {
            said = said(part, input(part, 0), input(part, 1), input(part, 2));
        }
        part.out = part.hand != null ? part.hand : (int) said;
    }

    private long input(Part part, int which) {
        return part.wires[which] == null ? 0 : parts.get(part.wires[which]).out;
    }

    private int failing(Part part) {
        for (char input : NAMED[part.kind].toCharArray()) {
            if (part.wires[input - 'a'] == null && part.kind != 16) {
                return 3;
            }
        }
        long a = input(part, 0);
        if (part.kind == 0 && (part.p < 0 || part.p > 9) || part.kind == 15 && (a < 0 || a > 7)) {
            return 2;
        }
        return (part.kind == 5 || part.kind == 6) && input(part, 1) == 0 ? 1 : 0;
    }

    private long said(Part part, long a, long b, long c) {
        long m = time % 1440;
        switch (part.kind) {
            case 0: return points[(int) part.p];
            case 1: return part.p;
            case 2: return a + b;
            case 3: return a - b;
            case 4: return a * b;
            case 5: return a / b;
            case 6: return a - b * (a / b);
            case 7: return a < b ? a : b;
            case 8: return a < b ? b : a;
            case 9: return a < b ? 1 : 0;
            case 10: return a == b ? 1 : 0;
            case 11: return a == 0 || b == 0 ? 0 : 1;
            case 12: return a == 0 && b == 0 ? 0 : 1;
            case 13: return a == 0 ? 1 : 0;
            case 14: return a == 0 ? c : b;
            case 15: return part.row[(int) a];
            case 16: return part.first;
            case 17: return ramp(part.out, a, part.p < 0 ? 0 : part.p);
            case 18: return count(part, a, b);
            case 19: part.first = a != 0 ? 1 : b != 0 ? 0 : part.first; return part.first;
            case 20: return part.p <= part.q ? part.p <= m && m < part.q ? 1 : 0 : m >= part.p || m < part.q ? 1 : 0;
            case 21: return pulse(part, a);
            case 22: return a < part.p ? part.p : a > part.q ? part.q : a;
            case 23: return b == 0 ? a : part.out;
            case 24: part.first = b != 0 ? 0 : (int) (part.first + a); return part.first;
            default: return since(part, a);
        }
    }

    /** One step at most: the place between out - p and out + p that is nearest to a. */
    private static long ramp(long out, long a, long p) {
        return a < out - p ? out - p : a > out + p ? out + p : a;
    }

    private static long count(Part part, long a, long b) {
        boolean edge = a != 0 && part.second == 0;
        part.first = b != 0 ? 0 : edge ? (int) (part.first + 1) : part.first;
        part.second = a;
        return part.first;
    }

    private static long pulse(Part part, long a) {
        if (a != 0 && part.second == 0) {
            part.first = part.p;
        }
        part.second = a;
        boolean on = part.first > 0;
        part.first = on ? part.first - 1 : part.first;
        return on ? 1 : 0;
    }

    private static long since(Part part, long a) {
        long next = a != 0 ? (int) (part.first + 1) : 0;
        part.first = next > part.p ? part.p : next;
        return part.first;
    }
}
