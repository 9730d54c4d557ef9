import java.util.LinkedHashMap;
import java.util.Map;

/** A MachineWitness that counts its calls: the document promises 512 of them, so no boundary test may need more. */
final class Witness {
    static final int MOST_CALLS = 512;
    // So many THINGS at each end are shown: with 160 of them all would be more than 512 calls.
    private static final int SHOWN_AT_ENDS = 5;

    private final MachineWitness machine = new MachineWitness();
    private int calls;

    private MachineWitness asked() {
        calls++;
        if (calls == MOST_CALLS + 1) {
            Check.due("calls of one object in a test", calls, MOST_CALLS);
        }
        return machine;
    }

    int calls() {
        return calls;
    }

    int act(int program, int op, int a, int b, int c) {
        return asked().act(program, op, a, b, c);
    }

    int handler(int program, int from, int to, int failure, int place) {
        return asked().handler(program, from, to, failure, place);
    }

    int empty(int program) {
        return asked().empty(program);
    }

    int start(int thread, int program) {
        return asked().start(thread, program);
    }

    int turn(int thread, int n) {
        return asked().turn(thread, n);
    }

    long number(int thread, int k) {
        return asked().number(thread, k);
    }

    long real(int thread, int k) {
        return asked().real(thread, k);
    }

    long small(int thread, int k) {
        return asked().small(thread, k);
    }

    int hold(int thread, int k) {
        return asked().hold(thread, k);
    }

    int told(int thread, int what) {
        return asked().told(thread, what);
    }

    int thing(int t, int what) {
        return asked().thing(t, what);
    }

    long item(int t, int i) {
        return asked().item(t, i);
    }

    long field(int t, int b) {
        return asked().field(t, b);
    }

    int ring(int thread) {
        return asked().ring(thread);
    }

    int trace() {
        return asked().trace();
    }

    int count(int what) {
        return asked().count(what);
    }

    int clear() {
        return asked().clear();
    }

    /** ACTS behind those that the PROGRAM has, four numbers each. */
    void add(int program, int... acts) {
        for (int k = 0; k + 3 < acts.length; k += 4) {
            int place = act(program, acts[k], acts[k + 1], acts[k + 2], acts[k + 3]);
            if (place < 0) {
                Check.due("act " + k / 4 + " of a script (op " + acts[k] + ") taken", place, k / 4);
            }
        }
    }

    /** PROGRAM 5 becomes these ACTS, and the THREAD runs it; what turn() answers. */
    int run(int thread, int... acts) {
        empty(5);
        add(5, acts);
        start(thread, 5);
        return turn(thread, 500);
    }

    /** N k of THREAD 0 becomes any long; N 0 and N 1 (of these two, N 2 and N 3) become 0 where an int is too small. */
    void setNumber(int k, long value) {
        int[] acts = {0, k, (int) value, 0};
        if ((int) value != value) {
            int by = k < 2 ? 2 : 0;
            acts = new int[] {0, k, (int) (value >> 32), 0, 0, by, 16, 0,
                3, k, 5, by, 0, by + 1, (int) value >>> 16, 0, 3, k, 9, by + 1,
                3, k, 5, by, 0, by + 1, (int) value & 0xFFFF, 0, 3, k, 9, by + 1, 0, by, 0, 0, 0, by + 1, 0, 0};
        }
        Check.due("setting a number", run(0, acts), 0);
        Check.due("the number set", number(0, k), value);
    }

    /** X k and F k of THREAD 0 become a whole number of quarters, -0.0 or endless. */
    void setReal(int k, double value) {
        int[] acts = {1, k, (int) (value * 4), -2, 11, k, 7, k};
        if (Double.isInfinite(value)) {
            acts = new int[] {1, k, 1, 60, 5, k, 2, k, 5, k, 2, k, 5, k, 2, k, 5, k, 2, k, 5, k, 2, k,
                7, k, value > 0 ? 0 : 5, k, 11, k, 7, k};
        } else if (value == 0 && 1 / value < 0) {
            acts = new int[] {1, k, 0, 0, 7, k, 5, k, 11, k, 7, k};
        }
        Check.due("setting a double", run(0, acts), 0);
        Check.dueBits("the double set", real(0, k), value);
        Check.dueSmallBits("the float set", small(0, k), (float) value);
    }

    /** X k and F k of THREAD 0 become any double that is not endless, its sign set last; X 3 (of it, X 2) is used. */
    void setAnyReal(int k, double value) {
        long bits = Double.doubleToRawLongBits(Math.abs(value));
        int exponent = Math.max(1, (int) (bits >>> 52));
        long mantissa = bits & (1L << 52) - 1 | (bits >>> 52 == 0 ? 0 : 1L << 52);
        int by = k == 3 ? 2 : 3;
        setNumber(5, mantissa);
        run(0, 11, k, 0, 5);
        for (int left = exponent - 1075; left != 0; ) {
            int step = Math.max(-60, Math.min(60, left));
            run(0, 1, by, 1, step, 5, k, 2, by);
            left -= step;
        }
        boolean minus = Double.doubleToRawLongBits(value) < 0;
        Check.due("setting a double", run(0, 7, k, minus ? 5 : 0, k, 11, k, 7, k, 0, 5, 0, 0), 0);
        Check.dueBits("the double set", real(0, k), value);
        Check.dueSmallBits("the float set", small(0, k), (float) value);
    }

    /** T k of THREAD 0 becomes a new THING of a SORT, a ROW with so many ITEMS; N 0 and N 1 become 0. */
    void holdThing(int k, int sort, int items) {
        int op = sort < 8 ? 14 : sort < 13 ? 15 : sort < 15 ? sort + 3 : 18;
        int b = sort < 8 ? sort : sort < 13 ? sort - 8 : sort < 15 ? 0 : sort - 16;
        // of 16 and 17 N b and N c: so many ROWS, of 2 ITEMS each
        int c = op == 16 || op == 17 ? 1 : 0;
        Check.due("a thing", run(0, 0, 0, items, 0, 0, 1, 2, 0, op, k, b, c, 0, 0, 0, 0, 0, 1, 0, 0), 0);
        Check.due("its sort", thing(hold(0, k), 0), sort);
    }

    /** So many OBJECTS of CLASS 0 more, the last one in T 0; N 0 becomes 0, N 1 becomes 1. */
    void makeThings(int many) {
        int had = count(0);
        int answer = many == 0 ? 0 : run(0, 0, 0, many, 0, 0, 1, 1, 0, 18, 0, 0, 0, 3, 0, 1, 1, 60, 2, 0, 1);
        Check.due("making things", answer, 0);
        Check.due("things made", count(0), had + many);
    }

    /** All that calls show of it, by call; of the THINGS the first and the last few. */
    Map<String, Long> shown() {
        Map<String, Long> all = new LinkedHashMap<>();
        int things = count(0);
        all.put("count(0)", (long) things);
        for (int what = 1; what <= 7; what++) {
            all.put("count(" + what + ")", (long) count(what));
        }
        all.put("trace()", (long) trace());
        for (int s = 0; s < 3; s++) {
            showThread(all, s);
        }
        for (int t = 0; t < things; t++) {
            if (t < SHOWN_AT_ENDS || t >= things - SHOWN_AT_ENDS) {
                showThing(all, t);
            }
        }
        return all;
    }

    private void showThread(Map<String, Long> all, int s) {
        for (int k = 0; k < 8; k++) {
            all.put("number(" + s + ", " + k + ")", number(s, k));
            all.put("hold(" + s + ", " + k + ")", (long) hold(s, k));
            all.put("told(" + s + ", " + k + ")", (long) told(s, k));
        }
        for (int k = 0; k < 4; k++) {
            all.put("real(" + s + ", " + k + ")", real(s, k));
            all.put("small(" + s + ", " + k + ")", small(s, k));
        }
        all.put("ring(" + s + ")", (long) ring(s));
    }

    private void showThing(Map<String, Long> all, int t) {
        for (int what = 0; what <= 3; what++) {
            all.put("thing(" + t + ", " + what + ")", (long) thing(t, what));
        }
        long items = all.get("thing(" + t + ", 1)");
        for (int i = 0; i < items; i++) {
            all.put("item(" + t + ", " + i + ")", item(t, i));
        }
        for (int b = 0; all.get("thing(" + t + ", 0)") >= 16 && b <= 8; b++) {
            all.put("field(" + t + ", " + b + ")", field(t, b));
        }
    }
}
