import java.util.ArrayList;
import java.util.Arrays;
import java.util.List;

/**
 * The document once more, by the Java machine's own rows, objects, casts and exceptions: what the class
 * under test works out by tests of its own, this one lets the machine find. For tests alone.
 */
final class Oracle {
    interface Weighs {
        long weigh(long v);

        double measure();

        int tally();
    }

    interface Blooms {
        Oracle home();

        default long bloom(long v) {
            home().begin(12);
            return 3 * v + petals();
        }

        default int petals() {
            home().begin(13);
            return 5;
        }
    }

    interface Hard {
        double hardness();
    }

    static class Node implements Weighs {
        final Oracle home;
        long n;
        double x;
        float f;
        Node next;
        int[] line;
        int tally;
        int mark;

        Node(Oracle home) {
            this.home = home;
        }

        public long weigh(long v) {
            home.begin(1);
            return n + v;
        }

        public double measure() {
            home.begin(5);
            return x;
        }

        public int tally() {
            home.begin(9);
            return ++tally;
        }
    }

    static class Leaf extends Node {
        int mark;

        Leaf(Oracle home) {
            super(home);
        }

        @Override
        public long weigh(long v) {
            home.begin(2);
            return 2 * super.weigh(v) + mark;
        }

        @Override
        public double measure() {
            home.begin(6);
            return x + super.measure();
        }

        @Override
        public int tally() {
            home.begin(10);
            super.tally();
            return super.tally();
        }
    }

    static class Bud extends Leaf implements Blooms {
        Bud(Oracle home) {
            super(home);
        }

        public Oracle home() {
            return home;
        }

        @Override
        public double measure() {
            home.begin(7);
            return 2.0 * super.measure();
        }
    }

    static class Twig extends Bud {
        int mark;

        Twig(Oracle home) {
            super(home);
        }

        @Override
        public long weigh(long v) {
            home.begin(3);
            return super.weigh(v) - mark;
        }

        @Override
        public int tally() {
            home.begin(11);
            return super.tally() + ((Node) this).mark;
        }

        @Override
        public int petals() {
            home.begin(14);
            return 7 + ((Leaf) this).mark;
        }
    }

    static class Stone extends Node implements Hard {
        Stone(Oracle home) {
            super(home);
        }

        @Override
        public long weigh(long v) {
            home.begin(4);
            return 0 - super.weigh(v);
        }

        @Override
        public double measure() {
            home.begin(8);
            return x % 4.0;
        }

        public double hardness() {
            home.begin(15);
            return 2 * (double) Math.abs(f);
        }
    }

    static final class Failure extends RuntimeException {
        private static final long serialVersionUID = 1L;
        final int kind;

        Failure(int kind) {
            super(null, null, false, false);
            this.kind = kind;
        }
    }

    static final class Waits extends RuntimeException {
        private static final long serialVersionUID = 1L;

        Waits() {
            super(null, null, false, false);
        }
    }

    static final class Frame {
        final int program;
        int place;

        Frame(int program) {
            this.program = program;
        }
    }

    static final class Runner {
        final long[] n = new long[8];
        final double[] x = new double[4];
        final float[] f = new float[4];
        final Object[] t = new Object[8];
        final ArrayList<Frame> frames = new ArrayList<>();
        int done, failed, latest, latestProgram = -1, latestPlace = -1;
        Object wanted;
    }

    private static final Class<?>[] KINDS = {
        boolean[].class, byte[].class, short[].class, char[].class, int[].class, long[].class, float[].class,
        double[].class, Node[].class, Leaf[].class, Bud[].class, Twig[].class, Stone[].class, int[][].class,
        double[][].class, null, Node.class, Leaf.class, Bud.class, Twig.class, Stone.class, Weighs.class,
        Blooms.class, Hard.class, Comparable.class, Cloneable.class};

    private List<Object> things;
    private List<int[]> locks;
    private List<List<int[]>> programs;
    private List<List<int[]>> handlers;
    private Runner[] runners;
    private int traced;

    Oracle() {
        clear();
    }

    void begin(int body) {
        traced = traced * 31 + body;
    }

    int clear() {
        int had = things == null ? 0 : things.size();
        things = new ArrayList<>();
        locks = new ArrayList<>();
        programs = new ArrayList<>();
        handlers = new ArrayList<>();
        for (int i = 0; i < 6; i++) {
            programs.add(new ArrayList<>());
            handlers.add(new ArrayList<>());
        }
        runners = new Runner[] {new Runner(), new Runner(), new Runner()};
        traced = 0;
        return had;
    }

    // ---- what an ACT may be: a letter for each of a, b, c

    private static final String[] SHAPES = {
        "N..", "X.p", "F.p", "NoN", "NoN", "XqX", "FqF", "XrX", "FrF", "NXX", "NFF", "?o?", "T.T", "T..", "TsN",
        "TcN", "TNN", "TNN", "Tc.", "!!!", "NTN", "NTN", "NTN", "NTN", "NTN", "NTN", "FTN", "XTN", "NTN", "NTN",
        "NTN", "NTN", "NTN", "NTN", "FTN", "XTN", "TTN", "TTN", "TTN", "TTN", "TTN", "TTN", "NT.", "NTN", "XTN",
        "NTN", "TT.", "TT.", "NTk", "TTk", "NTT", "?fT", "?gT", "NTN", "XT.", "NT.", "NTN", "XT.", ".e.", "P..",
        "PNi", "PT.", "O..", "...", ".T.", ".T."};

    private static boolean in(int v, int least, int most) {
        return least <= v && v <= most;
    }

    private static boolean fits(char shape, int v) {
        switch (shape) {
            case '.': case '?': return true;
            case 'N': case 'T': case 'q': case 's': return in(v, 0, 7);
            case 'X': case 'F': case 'i': return in(v, 0, 3);
            case 'p': return in(v, -60, 60);
            case 'o': return in(v, 0, 11);
            case 'r': case 'O': return in(v, 0, 5);
            case 'c': return in(v, 0, 4);
            case 'k': return in(v, 0, 14) || in(v, 16, 25);
            case 'f': return in(v, 0, 8);
            case 'g': return in(v, 0, 8) && v != 5;
            case 'e': return v == -1 || in(v, 20, 29);
            case 'P': return in(v, 0, 39);
            default: return false;
        }
    }

    int act(int program, int op, int a, int b, int c) {
        if (!in(program, 0, 5) || !in(op, 0, 65)) {
            return -1;
        }
        String shape = SHAPES[op];
        if (!fits(shape.charAt(0), a) || !fits(shape.charAt(1), b) || !fits(shape.charAt(2), c)) {
            return -1;
        }
        if (op == 11 && !(fits("XNNFNNXFNNNN".charAt(b), a) && fits("NXXNFFFXNNNN".charAt(b), c))) {
            return -1;
        }
        if ((op == 51 || op == 52) && !fits("NXFTTNNNN".charAt(b), a)) {
            return -1;
        }
        if (programs.get(program).size() == 40) {
            return -3;
        }
        programs.get(program).add(new int[] {op, a, b, c});
        return programs.get(program).size() - 1;
    }

    int handler(int program, int from, int to, int failure, int place) {
        if (!in(program, 0, 5) || !(0 <= from && from < to && to <= 40) || !in(place, 0, 39)) {
            return -1;
        }
        if (failure != -1 && !in(failure, 1, 10) && !in(failure, 20, 29)) {
            return -1;
        }
        if (handlers.get(program).size() == 6) {
            return -3;
        }
        handlers.get(program).add(new int[] {from, to, failure, place});
        return handlers.get(program).size();
    }

    private int underWay() {
        int many = 0;
        for (Runner r : runners) {
            many += r.frames.isEmpty() ? 0 : 1;
        }
        return many;
    }

    int empty(int program) {
        if (!in(program, 0, 5)) {
            return -1;
        }
        if (underWay() > 0) {
            return -2;
        }
        int had = programs.get(program).size();
        programs.get(program).clear();
        handlers.get(program).clear();
        return had;
    }

    int start(int thread, int program) {
        if (!in(thread, 0, 2) || !in(program, 0, 5)) {
            return -1;
        }
        if (!runners[thread].frames.isEmpty()) {
            return -2;
        }
        runners[thread].frames.add(new Frame(program));
        return 1;
    }

    // ---- turns

    private static Frame top(Runner r) {
        return r.frames.get(r.frames.size() - 1);
    }

    private static void pop(Runner r) {
        r.frames.remove(r.frames.size() - 1);
    }

    private void endWhatIsBehind(Runner r) {
        while (!r.frames.isEmpty() && top(r).place >= programs.get(top(r).program).size()) {
            pop(r);
            if (!r.frames.isEmpty()) {
                top(r).place++;
            }
        }
    }

    private void letGoAll(int thread) {
        for (int[] lock : locks) {
            if (lock[0] == thread) {
                lock[0] = -1;
                lock[1] = 0;
            }
        }
    }

    int turn(int thread, int n) {
        if (!in(thread, 0, 2) || !in(n, 1, 500)) {
            return -1;
        }
        Runner r = runners[thread];
        if (r.frames.isEmpty()) {
            return -2;
        }
        r.wanted = null;
        int failures = 0;
        endWhatIsBehind(r);
        for (int k = 0; k < n && !r.frames.isEmpty(); k++) {
            Frame frame = top(r);
            int[] act = programs.get(frame.program).get(frame.place);
            int place = frame.place;
            try {
                perform(r, thread, act[0], act[1], act[2], act[3]);
                r.done++;
                SEEN[act[0]][0]++;
                // a jump has set the place; a CALL stays at its place until its program ends
                endWhatIsBehind(r);
            } catch (Waits waits) {
                SEEN[act[0]][31]++;
                return 2;
            } catch (RuntimeException failure) {
                failures++;
                r.failed++;
                r.latest = kindOf(failure);
                r.latestProgram = frame.program;
                r.latestPlace = place;
                int kind = r.latest;
                SEEN[act[0]][kind]++;
                if (failures == 21) {
                    SEEN[act[0]][11]++;
                    r.latest = 11;
                    r.frames.clear();
                    letGoAll(thread);
                    return -21;
                }
                if (!isHandled(r, kind)) {
                    letGoAll(thread);
                    return -10 - kind;
                }
                endWhatIsBehind(r);
            }
        }
        if (r.frames.isEmpty()) {
            letGoAll(thread);
            return 0;
        }
        return 1;
    }

    private boolean isHandled(Runner r, int kind) {
        while (!r.frames.isEmpty()) {
            Frame frame = top(r);
            for (int[] h : handlers.get(frame.program)) {
                if (h[0] <= frame.place && frame.place < h[1] && (h[2] == -1 || h[2] == kind)) {
                    r.n[7] = kind;
                    frame.place = h[3];
                    return true;
                }
            }
            pop(r);
        }
        return false;
    }

    private static int kindOf(RuntimeException e) {
        if (e instanceof Failure) {
            return ((Failure) e).kind;
        }
        if (e instanceof NullPointerException) {
            return 1;
        }
        if (e instanceof ArrayIndexOutOfBoundsException) {
            return 2;
        }
        if (e instanceof ClassCastException) {
            return 3;
        }
        if (e instanceof ArrayStoreException) {
            return 4;
        }
        if (e instanceof NegativeArraySizeException) {
            return 5;
        }
        if (e instanceof ArithmeticException) {
            return 6;
        }
        throw e;
    }

    private static int index(long i) {
        return i < 0 || i > 1000 ? -1 : (int) i;
    }

    private static double number(double x) {
        if (Double.isNaN(x)) {
            throw new Failure(8);
        }
        return x;
    }

    private static float number(float x) {
        if (Float.isNaN(x)) {
            throw new Failure(8);
        }
        return x;
    }

    private Object made(Object thing) {
        things.add(thing);
        locks.add(new int[] {-1, 0});
        return thing;
    }

    private void room(long more) {
        if (things.size() + more > 160) {
            throw new Failure(9);
        }
    }

    private static long need(long items, long most) {
        if (items > most) {
            throw new Failure(9);
        }
        return items;
    }

    private static long longOp(int op, long x, long y) {
        switch (op) {
            case 0: return x + y;
            case 1: return x - y;
            case 2: return x * y;
            case 3: return x / y;
            case 4: return x % y;
            case 5: return x << y;
            case 6: return x >> y;
            case 7: return x >>> y;
            case 8: return x & y;
            case 9: return x | y;
            case 10: return x ^ y;
            default: return Long.compare(x, y);
        }
    }

    private static int intOp(int op, int x, int y) {
        switch (op) {
            case 0: return x + y;
            case 1: return x - y;
            case 2: return x * y;
            case 3: return x / y;
            case 4: return x % y;
            case 5: return x << y;
            case 6: return x >> y;
            case 7: return x >>> y;
            case 8: return x & y;
            case 9: return x | y;
            case 10: return x ^ y;
            default: return Integer.compare(x, y);
        }
    }

    static double doubleOp(int op, double x, double y) {
        switch (op) {
            case 0: return x + y;
            case 1: return x - y;
            case 2: return x * y;
            case 3: return x / y;
            case 4: return x % y;
            case 5: return Math.max(x, y);
            case 6: return Math.min(x, y);
            default: return Math.copySign(x, y);
        }
    }

    static float floatOp(int op, float x, float y) {
        switch (op) {
            case 0: return x + y;
            case 1: return x - y;
            case 2: return x * y;
            case 3: return x / y;
            case 4: return x % y;
            case 5: return Math.max(x, y);
            case 6: return Math.min(x, y);
            default: return Math.copySign(x, y);
        }
    }

    static double doubleFn(int fn, double x) {
        switch (fn) {
            case 0: return Math.abs(x);
            case 1: return Math.floor(x);
            case 2: return Math.ceil(x);
            case 3: return Math.rint(x);
            case 4: return Math.signum(x);
            default: return -x;
        }
    }

    static float floatFn(int fn, float x) {
        switch (fn) {
            case 0: return Math.abs(x);
            case 1: return (float) Math.floor(x);
            case 2: return (float) Math.ceil(x);
            case 3: return (float) Math.rint(x);
            case 4: return Math.signum(x);
            default: return -x;
        }
    }

    private void perform(Runner r, int thread, int op, int a, int b, int c) {
        if (op >= 58) {
            steer(r, thread, op, a, b, c);
            return;
        }
        if (op <= 11) {
            numbers(r, op, a, b, c);
        } else if (op <= 18) {
            making(r, op, a, b, c);
        } else if (op <= 41) {
            items(r, op, a, b, c);
        } else if (op <= 50) {
            rows(r, op, a, b, c);
        } else {
            objects(r, op, a, b, c);
        }
        top(r).place++;
    }

    private static void numbers(Runner r, int op, int a, int b, int c) {
        switch (op) {
            case 0: r.n[a] = b; break;
            case 1: r.x[a] = b * Math.pow(2, c); break;
            case 2: r.f[a] = (float) (b * Math.pow(2, c)); break;
            case 3: r.n[a] = longOp(b, r.n[a], r.n[c]); break;
            case 4: r.n[a] = intOp(b, (int) r.n[a], (int) r.n[c]); break;
            case 5: r.x[a] = number(doubleOp(b, r.x[a], r.x[c])); break;
            case 6: r.f[a] = number(floatOp(b, r.f[a], r.f[c])); break;
            case 7: r.x[a] = doubleFn(b, r.x[c]); break;
            case 8: r.f[a] = floatFn(b, r.f[c]); break;
            case 9: r.n[a] = r.x[b] < r.x[c] ? -1 : r.x[b] > r.x[c] ? 1 : 0; break;
            case 10: r.n[a] = r.f[b] < r.f[c] ? -1 : r.f[b] > r.f[c] ? 1 : 0; break;
            default: cast(r, a, b, c); break;
        }
    }

    private static void cast(Runner r, int a, int b, int c) {
        switch (b) {
            case 0: r.x[a] = r.n[c]; break;
            case 1: r.n[a] = (long) r.x[c]; break;
            case 2: r.n[a] = (int) r.x[c]; break;
            case 3: r.f[a] = r.n[c]; break;
            case 4: r.n[a] = (long) r.f[c]; break;
            case 5: r.n[a] = (int) r.f[c]; break;
            case 6: r.x[a] = r.f[c]; break;
            case 7: r.f[a] = (float) r.x[c]; break;
            case 8: r.n[a] = (byte) r.n[c]; break;
            case 9: r.n[a] = (short) r.n[c]; break;
            case 10: r.n[a] = (char) r.n[c]; break;
            default: r.n[a] = (int) r.n[c]; break;
        }
    }

    private Object newRow(int sort, int n) {
        switch (sort) {
            case 0: return new boolean[n];
            case 1: return new byte[n];
            case 2: return new short[n];
            case 3: return new char[n];
            case 4: return new int[n];
            case 5: return new long[n];
            case 6: return new float[n];
            case 7: return new double[n];
            case 8: return new Node[n];
            case 9: return new Leaf[n];
            case 10: return new Bud[n];
            case 11: return new Twig[n];
            default: return new Stone[n];
        }
    }

    private Object newObject(int ofClass) {
        switch (ofClass) {
            case 0: return new Node(this);
            case 1: return new Leaf(this);
            case 2: return new Bud(this);
            case 3: return new Twig(this);
            default: return new Stone(this);
        }
    }

    private void making(Runner r, int op, int a, int b, int c) {
        switch (op) {
            case 12: r.t[a] = r.t[c]; break;
            case 13: r.t[a] = null; break;
            case 14: case 15: {
                long n = need(r.n[c], 12);
                room(1);
                r.t[a] = made(newRow(op == 14 ? b : 8 + b, (int) Math.max(n, -1)));
                break;
            }
            case 16: case 17: {
                long rows = need(r.n[b], 6);
                long n = need(r.n[c], 12);
                room(1 + Math.max(0, rows));
                int rowsInt = (int) Math.max(rows, -1);
                int nInt = (int) Math.max(n, -1);
                Object[] all = op == 16 ? new int[rowsInt][nInt] : new double[rowsInt][nInt];
                r.t[a] = made(all);
                for (Object row : all) {
                    made(row);
                }
                break;
            }
            default:
                room(1);
                r.t[a] = made(newObject(b));
                break;
        }
    }

    private static void items(Runner r, int op, int a, int b, int c) {
        Object t = r.t[b];
        int i = index(r.n[c]);
        switch (op) {
            case 20: r.n[a] = ((boolean[]) t)[i] ? 1 : 0; break;
            case 21: r.n[a] = ((byte[]) t)[i]; break;
            case 22: r.n[a] = ((short[]) t)[i]; break;
            case 23: r.n[a] = ((char[]) t)[i]; break;
            case 24: r.n[a] = ((int[]) t)[i]; break;
            case 25: r.n[a] = ((long[]) t)[i]; break;
            case 26: r.f[a] = ((float[]) t)[i]; break;
            case 27: r.x[a] = ((double[]) t)[i]; break;
            case 28: ((boolean[]) t)[i] = r.n[a] != 0; break;
            case 29: ((byte[]) t)[i] = (byte) r.n[a]; break;
            case 30: ((short[]) t)[i] = (short) r.n[a]; break;
            case 31: ((char[]) t)[i] = (char) r.n[a]; break;
            case 32: ((int[]) t)[i] = (int) r.n[a]; break;
            case 33: ((long[]) t)[i] = r.n[a]; break;
            case 34: ((float[]) t)[i] = r.f[a]; break;
            case 35: ((double[]) t)[i] = r.x[a]; break;
            case 36: r.t[a] = ((Node[]) t)[i]; break;
            case 37: r.t[a] = ((int[][]) t)[i]; break;
            case 38: r.t[a] = ((double[][]) t)[i]; break;
            case 39: ((Node[]) t)[i] = (Node) r.t[a]; break;
            case 40: ((int[][]) t)[i] = (int[]) r.t[a]; break;
            default: ((double[][]) t)[i] = (double[]) r.t[a]; break;
        }
    }

    private static void kind(boolean fits) {
        if (!fits) {
            throw new Failure(10);
        }
    }

    private static Object there(Object t) {
        if (t == null) {
            throw new Failure(1);
        }
        return t;
    }

    private void rows(Runner r, int op, int a, int b, int c) {
        Object t = r.t[b];
        switch (op) {
            case 42:
                kind(there(t).getClass().isArray());
                r.n[a] = java.lang.reflect.Array.getLength(t);
                break;
            case 43:
                kind(in(sort(there(t)), 1, 5));
                r.n[a] = java.lang.reflect.Array.getLong(t, index(r.n[c]));
                break;
            case 44:
                kind(in(sort(there(t)), 1, 7));
                r.x[a] = java.lang.reflect.Array.getDouble(t, index(r.n[c]));
                break;
            case 45:
                kind(in(sort(there(t)), 4, 7));
                java.lang.reflect.Array.setInt(t, index(r.n[c]), (int) r.n[a]);
                break;
            case 46: {
                int from = sort(there(r.t[a]));
                if (from != sort(there(t)) || from > 7) {
                    throw new Failure(4);
                }
                System.arraycopy(r.t[a], index(r.n[5]), t, index(r.n[6]), index(r.n[7]));
                break;
            }
            case 47: {
                if (!there(t).getClass().isArray()) {
                    throw new Failure(3);
                }
                room(1);
                Object copy = java.lang.reflect.Array.newInstance(
                        t.getClass().getComponentType(), java.lang.reflect.Array.getLength(t));
                System.arraycopy(t, 0, copy, 0, java.lang.reflect.Array.getLength(t));
                r.t[a] = made(copy);
                break;
            }
            case 48: r.n[a] = KINDS[c].isInstance(t) ? 1 : 0; break;
            case 49: r.t[a] = KINDS[c].cast(t); break;
            default: r.n[a] = t == r.t[c] ? 1 : 0; break;
        }
    }

    private static void objects(Runner r, int op, int a, int b, int c) {
        switch (op) {
            case 51: get(r, a, b, r.t[c]); break;
            case 52: set(r, a, b, r.t[c]); break;
            case 53: r.n[a] = ((Weighs) r.t[b]).weigh(r.n[c]); break;
            case 54: r.x[a] = number(((Weighs) r.t[b]).measure()); break;
            case 55: r.n[a] = ((Weighs) r.t[b]).tally(); break;
            case 56: r.n[a] = ((Blooms) r.t[b]).bloom(r.n[c]); break;
            default: r.x[a] = ((Hard) r.t[b]).hardness(); break;
        }
    }

    private static void get(Runner r, int a, int b, Object t) {
        switch (b) {
            case 0: r.n[a] = ((Node) t).n; break;
            case 1: r.x[a] = ((Node) t).x; break;
            case 2: r.f[a] = ((Node) t).f; break;
            case 3: r.t[a] = ((Node) t).next; break;
            case 4: r.t[a] = ((Node) t).line; break;
            case 5: r.n[a] = ((Node) t).tally; break;
            case 6: r.n[a] = ((Node) t).mark; break;
            case 7: r.n[a] = ((Leaf) t).mark; break;
            default: r.n[a] = ((Twig) t).mark; break;
        }
    }

    private static void set(Runner r, int a, int b, Object t) {
        switch (b) {
            case 0: ((Node) t).n = r.n[a]; break;
            case 1: ((Node) t).x = r.x[a]; break;
            case 2: ((Node) t).f = r.f[a]; break;
            case 3: ((Node) t).next = (Node) r.t[a]; break;
            case 4: ((Node) t).line = (int[]) r.t[a]; break;
            case 6: ((Node) t).mark = (int) r.n[a]; break;
            case 7: ((Leaf) t).mark = (int) r.n[a]; break;
            default: ((Twig) t).mark = (int) r.n[a]; break;
        }
    }

    private void steer(Runner r, int thread, int op, int a, int b, int c) {
        Frame frame = top(r);
        switch (op) {
            case 58: throw new Failure(b == -1 ? 1 : b);
            case 59: frame.place = a; break;
            case 60: {
                long n = r.n[b];
                boolean so = c == 0 ? n == 0 : c == 1 ? n != 0 : c == 2 ? n < 0 : n > 0;
                frame.place = so ? a : frame.place + 1;
                break;
            }
            case 61: frame.place = r.t[b] == null ? a : frame.place + 1; break;
            case 62:
                if (r.frames.size() == 8) {
                    throw new Failure(9);
                }
                r.frames.add(new Frame(a));
                break;
            case 63:
                pop(r);
                if (!r.frames.isEmpty()) {
                    top(r).place++;
                }
                break;
            case 64: {
                int[] lock = locks.get(at(there(r.t[b])));
                if (lock[0] != -1 && lock[0] != thread) {
                    r.wanted = r.t[b];
                    throw new Waits();
                }
                lock[0] = thread;
                lock[1]++;
                frame.place++;
                break;
            }
            default: {
                int[] lock = locks.get(at(there(r.t[b])));
                if (lock[0] != thread) {
                    throw new Failure(7);
                }
                if (--lock[1] == 0) {
                    lock[0] = -1;
                }
                frame.place++;
                break;
            }
        }
    }

    /** See Inside: no ACT does this. */
    void share(int from, int k, int to, int j) {
        runners[to].t[j] = runners[from].t[k];
    }

    /** How often which op came out how (0, a FAILURE, 11 SPENT beside it, 31 WAITS), over all runs. */
    static final int[][] SEEN = new int[66][32];

    // ---- what is told

    private int at(Object thing) {
        for (int i = 0; i < things.size(); i++) {
            if (things.get(i) == thing) {
                return i;
            }
        }
        return -1;
    }

    private static int sort(Object thing) {
        return Arrays.asList(KINDS).indexOf(thing.getClass());
    }

    long number(int thread, int k) {
        return in(thread, 0, 2) && in(k, 0, 7) ? runners[thread].n[k] : Long.MIN_VALUE;
    }

    long real(int thread, int k) {
        return in(thread, 0, 2) && in(k, 0, 3) ? Double.doubleToRawLongBits(runners[thread].x[k]) : Long.MIN_VALUE;
    }

    long small(int thread, int k) {
        return in(thread, 0, 2) && in(k, 0, 3) ? Float.floatToRawIntBits(runners[thread].f[k]) : Long.MIN_VALUE;
    }

    int hold(int thread, int k) {
        return in(thread, 0, 2) && in(k, 0, 7) ? at(runners[thread].t[k]) : -2;
    }

    int told(int thread, int what) {
        if (!in(thread, 0, 2) || !in(what, 0, 7)) {
            return -2;
        }
        Runner r = runners[thread];
        int[] all = {r.done, r.failed, r.latest, r.latestProgram, r.latestPlace, r.frames.size(),
            r.wanted == null ? -1 : at(r.wanted), r.frames.isEmpty() ? 0 : 1};
        return all[what];
    }

    int thing(int t, int what) {
        if (!in(t, 0, things.size() - 1) || !in(what, 0, 3)) {
            return -2;
        }
        Object thing = things.get(t);
        switch (what) {
            case 0: return sort(thing);
            case 1: return thing.getClass().isArray() ? java.lang.reflect.Array.getLength(thing) : 0;
            case 2: return locks.get(t)[0];
            default: return locks.get(t)[1];
        }
    }

    long item(int t, int i) {
        if (!in(t, 0, things.size() - 1) || !things.get(t).getClass().isArray()) {
            return Long.MIN_VALUE;
        }
        Object row = things.get(t);
        if (!in(i, 0, java.lang.reflect.Array.getLength(row) - 1)) {
            return Long.MIN_VALUE;
        }
        if (row instanceof boolean[]) {
            return ((boolean[]) row)[i] ? 1 : 0;
        }
        if (row instanceof float[]) {
            return Float.floatToRawIntBits(((float[]) row)[i]);
        }
        if (row instanceof double[]) {
            return Double.doubleToRawLongBits(((double[]) row)[i]);
        }
        if (row instanceof Object[]) {
            return at(((Object[]) row)[i]);
        }
        return java.lang.reflect.Array.getLong(row, i);
    }

    long field(int t, int b) {
        if (!in(t, 0, things.size() - 1) || !(things.get(t) instanceof Node) || !in(b, 0, 8)) {
            return Long.MIN_VALUE;
        }
        Node node = (Node) things.get(t);
        switch (b) {
            case 0: return node.n;
            case 1: return Double.doubleToRawLongBits(node.x);
            case 2: return Float.floatToRawIntBits(node.f);
            case 3: return at(node.next);
            case 4: return at(node.line);
            case 5: return node.tally;
            case 6: return node.mark;
            case 7: return node instanceof Leaf ? ((Leaf) node).mark : Long.MIN_VALUE;
            default: return node instanceof Twig ? ((Twig) node).mark : Long.MIN_VALUE;
        }
    }

    int ring(int thread) {
        if (!in(thread, 0, 2)) {
            return -1;
        }
        int now = thread;
        for (int k = 0; k < 10; k++) {
            if (runners[now].wanted == null) {
                return 0;
            }
            now = locks.get(at(runners[now].wanted))[0];
            if (now == -1) {
                return 0;
            }
            if (now == thread) {
                return 1;
            }
        }
        return 0;
    }

    int trace() {
        return traced;
    }

    int count(int what) {
        if (!in(what, 0, 7)) {
            return -1;
        }
        return what == 0 ? things.size() : what == 7 ? underWay() : programs.get(what - 1).size();
    }
}
