public final class MachineWitness {
    public static final int NONE = -1, BAD = -1, STATE = -2, FULL = -3;
    public static final long LOST = Long.MIN_VALUE;

    // What BAD is in the calls that answer NONE, too.
    private static final int BAD_BESIDE_NONE = -2;

    // How an ACT comes out: FINE, WAITS or its FAILURE.
    private static final int FINE = 0, WAITS = -1, NULL = 1, INDEX = 2, CAST = 3, STORE = 4, SIZE = 5, ZERO = 6,
            OWNER = 7, ENDLESS = 8, ROOM = 9, KIND = 10, SPENT = 11, RAISED = 20, LAST_RAISED = 29;

    // SORTS, and the kinds that are none.
    private static final int TRUTHS = 0, BYTES = 1, SHORTS = 2, CHARS = 3, INTS = 4, LONGS = 5, FLOATS = 6,
            DOUBLES = 7, NODE_ROW = 8, STONE_ROW = 12, INT_ROWS = 13, DOUBLE_ROWS = 14, NODE = 16, LEAF = 17,
            BUD = 18, TWIG = 19, STONE = 20, WEIGHS = 21, BLOOMS = 22, HARD = 23, CLONEABLE = 25;

    private static final int PROGRAMS = 6, STRANDS = 3, PLACES = 40, MOST_TURNS = 500;

    private final Program[] programs = new Program[PROGRAMS];
    private final Strand[] strands = new Strand[STRANDS];
    private final Store store = new Store();
    private final Reals reals = new Reals();
    private final ObjectActs objects = new ObjectActs(reals);
    private final Mover mover;

    public MachineWitness() {
        for (int i = 0; i < PROGRAMS; i++) {
            programs[i] = new Program(i);
        }
        for (int i = 0; i < STRANDS; i++) {
            strands[i] = new Strand(i);
        }
        mover = new Mover(programs, new NumberActs(reals), new HoldActs(store), objects);
    }

    public int act(int program, int op, int a, int b, int c) {
        Program changed = programAt(program);
        if (changed == null || !Shapes.fit(op, a, b, c)) {
            return BAD;
        }
        return changed.addAct(op, a, b, c);
    }

    public int handler(int program, int from, int to, int failure, int place) {
        Program changed = programAt(program);
        if (changed == null || from < 0 || from >= to || to > PLACES || place < 0 || place >= PLACES) {
            return BAD;
        }
        if (!isHandled(failure)) {
            return BAD;
        }
        return changed.addHandler(from, to, failure, place);
    }

    public int empty(int program) {
        Program changed = programAt(program);
        if (changed == null) {
            return BAD;
        }
        if (underWay() > 0) {
            return STATE;
        }
        return changed.forget();
    }

    public int start(int thread, int program) {
        Strand strand = strandAt(thread);
        Program first = programAt(program);
        if (strand == null || first == null) {
            return BAD;
        }
        if (strand.isUnderWay()) {
            return STATE;
        }
        strand.enter(first);
        return 1;
    }

    public int turn(int thread, int n) {
        Strand strand = strandAt(thread);
        if (strand == null || n < 1 || n > MOST_TURNS) {
            return BAD;
        }
        if (!strand.isUnderWay()) {
            return STATE;
        }
        strand.beginTurn();
        int state = Mover.GOES_ON;
        for (int k = 0; k < n && state == Mover.GOES_ON; k++) {
            state = mover.step(strand);
        }
        if (!strand.isUnderWay()) {
            store.letGoAll(thread);
        }
        return state;
    }

    public long number(int thread, int k) {
        Strand strand = strandAt(thread);
        return strand == null || k < 0 || k >= Strand.NUMBERS ? LOST : strand.n(k);
    }

    public long real(int thread, int k) {
        Strand strand = strandAt(thread);
        return strand == null || k < 0 || k >= Strand.REALS ? LOST : reals.bits(strand.x(k));
    }

    public long small(int thread, int k) {
        Strand strand = strandAt(thread);
        return strand == null || k < 0 || k >= Strand.REALS ? LOST : reals.smallBits(strand.f(k));
    }

    public int hold(int thread, int k) {
        Strand strand = strandAt(thread);
        if (strand == null || k < 0 || k >= Strand.HOLDS) {
            return BAD_BESIDE_NONE;
        }
        return indexOf(strand.t(k));
    }

    public int told(int thread, int what) {
        Strand strand = strandAt(thread);
        if (strand == null) {
            return BAD_BESIDE_NONE;
        }
        switch (what) {
            case 0: return strand.done;
            case 1: return strand.failed;
            case 2: return strand.latest;
            case 3: return strand.latestProgram;
            case 4: return strand.latestPlace;
            case 5: return strand.depth;
            case 6: return indexOf(strand.wanted);
            case 7: return strand.isUnderWay() ? 1 : 0;
            default: return BAD_BESIDE_NONE;
        }
    }

    public int thing(int t, int what) {
        Thing asked = store.at(t);
        if (asked == null) {
            return BAD_BESIDE_NONE;
        }
        switch (what) {
            case 0: return asked.sort;
            case 1: return asked.length;
            case 2: return asked.owner;
            case 3: return asked.times;
            default: return BAD_BESIDE_NONE;
        }
    }

    public long item(int t, int i) {
        Thing row = store.at(t);
        if (row == null || !row.hasItem(i)) {
            return LOST;
        }
        if (row.sort == FLOATS) {
            return reals.smallBits((float) row.reals[i]);
        }
        if (row.sort == DOUBLES) {
            return reals.bits(row.reals[i]);
        }
        return row.sort < FLOATS ? row.wholes[i] : indexOf(row.parts[i]);
    }

    public long field(int t, int b) {
        Thing object = store.at(t);
        if (object == null || !object.isA(NODE)) {
            return LOST;
        }
        switch (b) {
            case 0: return object.n;
            case 1: return reals.bits(object.x);
            case 2: return reals.smallBits(object.f);
            case 3: return indexOf(object.next);
            case 4: return indexOf(object.line);
            case 5: return object.tally;
            case 6: return object.nodeMark;
            case 7: return object.isA(LEAF) ? object.leafMark : LOST;
            case 8: return object.isA(TWIG) ? object.twigMark : LOST;
            default: return LOST;
        }
    }

    public int ring(int thread) {
        Strand strand = strandAt(thread);
        if (strand == null) {
            return BAD;
        }
        // A ring has at most all THREADS in it: so many steps lead back, or none do.
        for (int k = 0; k < STRANDS && strand != null; k++) {
            strand = strand.wanted == null ? null : strandAt(strand.wanted.owner);
            if (strand != null && strand.index == thread) {
                return 1;
            }
        }
        return 0;
    }

    public int trace() {
        return objects.traced;
    }

    public int count(int what) {
        if (what == 0) {
            return store.made;
        }
        if (what == PROGRAMS + 1) {
            return underWay();
        }
        Program asked = what < 0 ? null : programAt(what - 1);
        return asked == null ? BAD : asked.size;
    }

    public int clear() {
        for (int i = 0; i < PROGRAMS; i++) {
            programs[i].forget();
        }
        for (int i = 0; i < STRANDS; i++) {
            strands[i].forget();
        }
        objects.traced = 0;
        return store.forget();
    }

    private Program programAt(int program) {
        return program >= 0 && program < PROGRAMS ? programs[program] : null;
    }

    private Strand strandAt(int thread) {
        return thread >= 0 && thread < STRANDS ? strands[thread] : null;
    }

    private int underWay() {
        int many = 0;
        for (int i = 0; i < STRANDS; i++) {
            many += strands[i].isUnderWay() ? 1 : 0;
        }
        return many;
    }

    private static int indexOf(Thing held) {
        return held == null ? NONE : held.index;
    }

    private static boolean isHandled(int failure) {
        return failure == Program.ANY_FAILURE || (failure >= NULL && failure <= KIND)
                || (failure >= RAISED && failure <= LAST_RAISED);
    }

    /** A PROGRAM. */
    static final class Program {
        static final int ANY_FAILURE = -1, MOST_HANDLERS = 6, PARTS = 4;

        final int index;
        int size;
        private int handlers;
        private final int[] acts = new int[PLACES * PARTS];
        private final int[] taken = new int[MOST_HANDLERS * PARTS];

        Program(int index) {
            this.index = index;
        }

        int addAct(int op, int a, int b, int c) {
            if (size >= PLACES) {
                return FULL;
            }
            write(acts, size, op, a, b, c);
            return size++;
        }

        int addHandler(int from, int to, int failure, int place) {
            if (handlers >= MOST_HANDLERS) {
                return FULL;
            }
            write(taken, handlers, from, to, failure, place);
            return ++handlers;
        }

        private static void write(int[] rows, int row, int first, int second, int third, int fourth) {
            int at = row * PARTS;
            rows[at] = first;
            rows[at + 1] = second;
            rows[at + 2] = third;
            rows[at + 3] = fourth;
        }

        boolean hasPlace(int place) {
            return place >= 0 && place < size;
        }

        /** The op (0), a, b or c (1 to 3) of an ACT. */
        int part(int place, int which) {
            return acts[place * PARTS + which];
        }

        /** Where the first HANDLER that fits goes on, or NONE. */
        int handlingPlace(int place, int failure) {
            for (int k = 0; k < handlers; k++) {
                int at = k * PARTS;
                boolean covers = place >= taken[at] && place < taken[at + 1];
                if (covers && (taken[at + 2] == ANY_FAILURE || taken[at + 2] == failure)) {
                    return taken[at + 3];
                }
            }
            return NONE;
        }

        int forget() {
            int had = size;
            size = 0;
            handlers = 0;
            return had;
        }
    }

    /** A THREAD: its registers, the PROGRAMS that it has under way, and what has come of its ACTS. */
    static final class Strand {
        static final int NUMBERS = 8, REALS = 4, HOLDS = 8, MOST_DEEP = 8;

        final int index;
        // How many there are of each is a power of two: a mask keeps every number inside.
        private final long[] numbers = new long[NUMBERS];
        private final double[] doubles = new double[REALS];
        private final float[] floats = new float[REALS];
        private final Thing[] holds = new Thing[HOLDS];
        private final Program[] called = new Program[MOST_DEEP];
        private final int[] places = new int[MOST_DEEP];
        int depth;
        int done, failed, failedNow;
        int latest, latestProgram = NONE, latestPlace = NONE;
        Thing wanted;

        Strand(int index) {
            this.index = index;
        }

        long n(int k) {
            return numbers[k & (NUMBERS - 1)];
        }

        double x(int k) {
            return doubles[k & (REALS - 1)];
        }

        float f(int k) {
            return floats[k & (REALS - 1)];
        }

        Thing t(int k) {
            return holds[k & (HOLDS - 1)];
        }

        void setN(int k, long value) {
            numbers[k & (NUMBERS - 1)] = value;
        }

        void setX(int k, double value) {
            doubles[k & (REALS - 1)] = value;
        }

        void setF(int k, float value) {
            floats[k & (REALS - 1)] = value;
        }

        void setT(int k, Thing value) {
            holds[k & (HOLDS - 1)] = value;
        }

        boolean isUnderWay() {
            return depth > 0;
        }

        /** The PROGRAM that was CALLED last and has not ended, or null. */
        Program latestCalled() {
            return depth > 0 && depth <= MOST_DEEP ? called[depth - 1] : null;
        }

        int place() {
            return depth > 0 && depth <= MOST_DEEP ? places[depth - 1] : 0;
        }

        void goTo(int place) {
            if (depth > 0 && depth <= MOST_DEEP) {
                places[depth - 1] = place;
            }
        }

        /** The PROGRAM that CALLS stays at its CALL: a FAILURE that comes out of it comes there. */
        boolean enter(Program program) {
            if (depth < 0 || depth >= MOST_DEEP) {
                return false;
            }
            called[depth] = program;
            places[depth] = 0;
            depth++;
            return true;
        }

        void leave() {
            depth = Math.max(0, depth - 1);
            goTo(place() + 1);
        }

        void beginTurn() {
            wanted = null;
            failedNow = 0;
        }

        void note(int failure, Program program) {
            failed++;
            failedNow++;
            latest = failure;
            latestProgram = program.index;
            latestPlace = place();
        }

        void forget() {
            for (int k = 0; k < NUMBERS; k++) {
                setN(k, 0L);
                setT(k, null);
            }
            for (int k = 0; k < REALS; k++) {
                setX(k, 0.0);
                setF(k, 0.0f);
            }
            depth = 0;
            done = 0;
            failed = 0;
            failedNow = 0;
            latest = 0;
            latestProgram = NONE;
            latestPlace = NONE;
            wanted = null;
        }
    }

    /** A THING: a ROW (ITEMS in wholes, reals or parts, by its SORT) or an OBJECT (the fields). */
    static final class Thing {
        static final int MOST_ITEMS = 12;

        final int index;
        int sort, length;
        int owner = NONE, times;
        final long[] wholes = new long[MOST_ITEMS];
        // Floats, too: every float is a double.
        final double[] reals = new double[MOST_ITEMS];
        final Thing[] parts = new Thing[MOST_ITEMS];
        long n;
        double x;
        float f;
        Thing next, line;
        int tally, nodeMark, leafMark, twigMark;

        Thing(int index) {
            this.index = index;
        }

        void begin(int newSort, int newLength) {
            sort = newSort;
            length = newLength;
            letGo();
            for (int i = 0; i < MOST_ITEMS; i++) {
                wholes[i] = 0L;
                reals[i] = 0.0;
                parts[i] = null;
            }
            n = 0L;
            x = 0.0;
            f = 0.0f;
            next = null;
            line = null;
            tally = 0;
            nodeMark = 0;
            leafMark = 0;
            twigMark = 0;
        }

        void letGo() {
            owner = NONE;
            times = 0;
        }

        boolean hasItem(long i) {
            return i >= 0 && i < length;
        }

        /** As hasItem, of many ITEMS from first on; the sum of both could wrap. */
        boolean hasItems(long first, long many) {
            return first >= 0 && many >= 0 && many <= length && first <= length - many;
        }

        boolean isRow() {
            return sort < NODE;
        }

        boolean isA(int kind) {
            switch (kind) {
                case WEIGHS: return !isRow();
                case BLOOMS: return sort == BUD || sort == TWIG;
                case HARD: return sort == STONE;
                case CLONEABLE: return isRow();
                default: break;
            }
            if (kind >= NODE_ROW && kind <= STONE_ROW) {
                return sort >= NODE_ROW && sort <= STONE_ROW && isUnder(sort - NODE_ROW + NODE, kind - NODE_ROW + NODE);
            }
            if (kind >= NODE && kind <= STONE) {
                return !isRow() && isUnder(sort, kind);
            }
            return sort == kind;
        }

        /** NODE to TWIG stand under one another as they are numbered; STONE under NODE alone. */
        static boolean isUnder(int kind, int above) {
            return above == NODE || kind == above || (kind > above && kind <= TWIG);
        }
    }

    /** All THINGS; those of an earlier time are used again behind clear(). */
    static final class Store {
        static final int MOST_THINGS = 160;

        private final Thing[] things = new Thing[MOST_THINGS];
        int made;

        boolean hasRoomFor(int more) {
            return made <= MOST_THINGS - more;
        }

        /** A new THING, or null where none has room. */
        Thing make(int sort, int length) {
            if (!hasRoomFor(1)) {
                return null;
            }
            Thing found = things[made];
            if (found == null) {
                found = new Thing(made);
                things[made] = found;
            }
            made++;
            found.begin(sort, length);
            return found;
        }

        Thing at(int t) {
            return t >= 0 && t < made ? things[t] : null;
        }

        void letGoAll(int owner) {
            for (int t = 0; t < made; t++) {
                Thing locked = things[t];
                if (locked != null && locked.owner == owner) {
                    locked.letGo();
                }
            }
        }

        int forget() {
            int had = made;
            made = 0;
            return had;
        }
    }

    /** What the numbers of an ACT may be. */
    static final class Shapes {
        private static final int ANY = 0, N = 1, X = 2, F = 3, T = 4, PLACE = 5, PROGRAM = 6, POWER = 7,
                WHOLE_OP = 8, REAL_OP = 9, FUNCTION = 10, CHANGE = 11, SORT = 12, CLASS = 13, KIND_NUMBER = 14,
                FIELD = 15, SET_FIELD = 16, FAILURE = 17, TEST = 18, BY_B = 19, NEVER = 20;
        private static final int CHANGE_OP = 11, GET_FIELD_OP = 51, SET_FIELD_OP = 52;

        // By shape, in the order above; that of NEVER is a range with nothing in it.
        private static final int[] LEAST = {
            0, 0, 0, 0, 0, 0, 0, -60, 0, 0, 0, 0, 0, 0, 0, 0, 0, -1, 0, 0, 1};
        private static final int[] MOST = {
            0, 7, 3, 3, 7, 39, 5, 60, 11, 7, 5, 11, 7, 4, 25, 8, 8, 29, 3, 0, 0};

        // Of each op the shapes of a, b and c; five ops a line.
        private static final int[] OF_OPS = {
            N, ANY, ANY,  X, ANY, POWER,  F, ANY, POWER,  N, WHOLE_OP, N,  N, WHOLE_OP, N, // 0
            X, REAL_OP, X,  F, REAL_OP, F,  X, FUNCTION, X,  F, FUNCTION, F,  N, X, X, // 5
            N, F, F,  BY_B, CHANGE, BY_B,  T, ANY, T,  T, ANY, ANY,  T, SORT, N, // 10
            T, CLASS, N,  T, N, N,  T, N, N,  T, CLASS, ANY,  NEVER, ANY, ANY, // 15
            N, T, N,  N, T, N,  N, T, N,  N, T, N,  N, T, N, // 20
            N, T, N,  F, T, N,  X, T, N,  N, T, N,  N, T, N, // 25
            N, T, N,  N, T, N,  N, T, N,  N, T, N,  F, T, N, // 30
            X, T, N,  T, T, N,  T, T, N,  T, T, N,  T, T, N, // 35
            T, T, N,  T, T, N,  N, T, ANY,  N, T, N,  X, T, N, // 40
            N, T, N,  T, T, ANY,  T, T, ANY,  N, T, KIND_NUMBER,  T, T, KIND_NUMBER, // 45
            N, T, T,  BY_B, FIELD, T,  BY_B, SET_FIELD, T,  N, T, N,  X, T, ANY, // 50
            N, T, ANY,  N, T, N,  X, T, ANY,  ANY, FAILURE, ANY,  PLACE, ANY, ANY, // 55
            PLACE, N, TEST,  PLACE, T, ANY,  PROGRAM, ANY, ANY,  ANY, ANY, ANY,  ANY, T, ANY, // 60
            ANY, T, ANY, // 65
        };
        private static final int[] CHANGE_TO = {X, N, N, F, N, N, X, F, N, N, N, N};
        private static final int[] CHANGE_FROM = {N, X, X, N, F, F, F, X, N, N, N, N};
        private static final int[] OF_FIELDS = {N, X, F, T, T, N, N, N, N};

        static boolean fit(int op, int a, int b, int c) {
            if (op < 0 || op >= OF_OPS.length / 3) {
                return false;
            }
            int at = op * 3;
            if (!fits(OF_OPS[at], a) || !fits(OF_OPS[at + 1], b) || !fits(OF_OPS[at + 2], c)) {
                return false;
            }
            return fitsByB(op, a, b, c);
        }

        private static boolean fits(int shape, int value) {
            switch (shape) {
                case ANY:
                case BY_B: return true;
                case KIND_NUMBER: return isWithin(shape, value) && value != DOUBLE_ROWS + 1;
                case SET_FIELD: return isWithin(shape, value) && value != 5;
                case FAILURE: return isWithin(shape, value) && (value == -1 || value >= RAISED);
                default: return isWithin(shape, value);
            }
        }

        private static boolean isWithin(int shape, int value) {
            return shape >= 0 && shape < LEAST.length && shape < MOST.length
                    && value >= LEAST[shape] && value <= MOST[shape];
        }

        private static boolean fitsByB(int op, int a, int b, int c) {
            if (op == CHANGE_OP) {
                return b >= 0 && b < CHANGE_TO.length && b < CHANGE_FROM.length
                        && fits(CHANGE_TO[b], a) && fits(CHANGE_FROM[b], c);
            }
            if (op == GET_FIELD_OP || op == SET_FIELD_OP) {
                return b >= 0 && b < OF_FIELDS.length && fits(OF_FIELDS[b], a);
            }
            return true;
        }
    }

    /** Doubles and floats, by nothing but + - * / and comparisons; no answer is NaN. */
    static final class Reals {
        private static final int POWERS = 10, MANTISSA = 52, BIAS = 1023, SMALL_MANTISSA = 23, SMALL_BIAS = 127;
        private static final long SIGN = 1L << 63, ENDLESS_BITS = 0x7FFL << MANTISSA;
        private static final int SMALL_SIGN = 1 << 31, SMALL_ENDLESS_BITS = 0xFF << SMALL_MANTISSA;

        // 2 to the 1, 2, 4, .. 512.
        private final double[] powers = new double[POWERS];

        Reals() {
            double power = 2.0;
            for (int j = 0; j < POWERS; j++) {
                powers[j] = power;
                power = power * power;
            }
        }

        static boolean isEndless(double x) {
            return x > 1.7976931348623157E308 || x < -1.7976931348623157E308;
        }

        static boolean isMinus(double x) {
            return x < 0.0 || (x == 0.0 && 1.0 / x < 0.0);
        }

        static double withoutSign(double x) {
            return isMinus(x) ? -x : x;
        }

        static double withSignOf(double x, double y) {
            return isMinus(x) == isMinus(y) ? x : -x;
        }

        static int compared(double x, double y) {
            return x < y ? -1 : x > y ? 1 : 0;
        }

        static double greater(double x, double y) {
            return x > y || (x == y && isMinus(y)) ? x : y;
        }

        static double lesser(double x, double y) {
            return x < y || (x == y && isMinus(x)) ? x : y;
        }

        /** From 2 to the 52 on all doubles are whole. */
        static boolean isSurelyWhole(double x) {
            return x >= 4503599627370496.0 || x <= -4503599627370496.0;
        }

        static double floor(double x) {
            if (isSurelyWhole(x) || x == 0.0) {
                return x;
            }
            double cut = (double) (long) x;
            return cut > x ? cut - 1.0 : cut;
        }

        static double ceiling(double x) {
            return -floor(-x);
        }

        /** Behind the sum no bit below 1 has room: the machine itself rounds to the even one. */
        static double nearest(double x) {
            if (isSurelyWhole(x)) {
                return x;
            }
            double rounded = withoutSign(x) + 4503599627370496.0 - 4503599627370496.0;
            return withSignOf(rounded, x);
        }

        static double signOf(double x) {
            return x > 0.0 ? 1.0 : x < 0.0 ? -1.0 : x;
        }

        /** x times 2 to the k, k from -1023 to 1023. */
        double scaled(double x, int k) {
            int size = Math.abs(k);
            double found = x;
            for (int j = 0; j < POWERS; j++) {
                if ((size >> j & 1) != 0) {
                    found = k < 0 ? found / powers[j] : found * powers[j];
                }
            }
            return found;
        }

        /** x % y; x is not endless, y is not 0.0. */
        double remainder(double x, double y) {
            double size = x < 0.0 ? -x : x;
            double by = y < 0.0 ? -y : y;
            if (size < by) {
                return x;
            }
            long sizeBits = bitsOfSize(size);
            long byBits = bitsOfSize(by);
            long divisor = mantissaOf(byBits);
            if (divisor == 0) {
                return x;
            }
            long rest = mantissaOf(sizeBits) % divisor;
            // A rest has 53 bits at most: with 10 more it is still a long above 0.
            for (int left = exponentOf(sizeBits) - exponentOf(byBits); left > 0; left -= 10) {
                rest = (rest << Math.min(left, 10)) % divisor;
            }
            double found = scaled((double) rest / 4503599627370496.0, exponentOf(byBits) - BIAS);
            return isMinus(x) ? -found : found;
        }

        private static int exponentOf(long sizeBits) {
            return Math.max(1, (int) (sizeBits >>> MANTISSA));
        }

        private static long mantissaOf(long sizeBits) {
            long low = sizeBits & ((1L << MANTISSA) - 1);
            return sizeBits >>> MANTISSA == 0 ? low : low | 1L << MANTISSA;
        }

        long bits(double x) {
            long found = isEndless(x) ? ENDLESS_BITS : bitsOfSize(withoutSign(x));
            return isMinus(x) ? found | SIGN : found;
        }

        /** The bits of a float, as an int that is widened. */
        long smallBits(float x) {
            int found = isEndless(x) ? SMALL_ENDLESS_BITS : smallBitsOfSize(withoutSign(x));
            return isMinus(x) ? found | SMALL_SIGN : found;
        }

        private long bitsOfSize(double size) {
            // Below 2 to the -1022 the bits count steps of 2 to the -1074.
            if (size < 2.2250738585072014E-308) {
                return (long) (size * powers[9] * powers[9] * 1125899906842624.0);
            }
            double rest = size;
            int exponent = BIAS;
            for (int j = POWERS - 1; j >= 0; j--) {
                if (rest >= powers[j]) {
                    rest = rest / powers[j];
                    exponent += 1 << j;
                } else if (rest * powers[j] < 2.0) {
                    rest = rest * powers[j];
                    exponent -= 1 << j;
                }
            }
            return ((long) exponent << MANTISSA) + (long) ((rest - 1.0) * 4503599627370496.0);
        }

        private int smallBitsOfSize(double size) {
            // Below 2 to the -126 the bits count steps of 2 to the -149.
            if (size < 1.1754943508222875E-38) {
                return (int) scaled(size, 149);
            }
            long wide = bitsOfSize(size);
            long exponent = (wide >>> MANTISSA) - BIAS + SMALL_BIAS;
            long mantissa = (wide >>> MANTISSA - SMALL_MANTISSA) & ((1 << SMALL_MANTISSA) - 1);
            return (int) (exponent << SMALL_MANTISSA | mantissa);
        }
    }

    /** ACTS on NUMBERS, DOUBLES and FLOATS: 0 to 11. */
    static final class NumberActs {
        private static final int DIVIDE = 3, REST = 4;

        private final Reals reals;

        NumberActs(Reals reals) {
            this.reals = reals;
        }

        int perform(Strand s, int op, int a, int b, int c) {
            switch (op) {
                case 0: s.setN(a, b); return FINE;
                case 1: s.setX(a, reals.scaled(b, c)); return FINE;
                case 2: s.setF(a, (float) reals.scaled(b, c)); return FINE;
                case 3: return joinLongs(s, a, b, c);
                case 4: return joinInts(s, a, b, c);
                case 5: return joinDoubles(s, a, b, c);
                case 6: return joinFloats(s, a, b, c);
                case 7: s.setX(a, mapped(b, s.x(c))); return FINE;
                case 8: s.setF(a, (float) mapped(b, s.f(c))); return FINE;
                case 9: s.setN(a, Reals.compared(s.x(b), s.x(c))); return FINE;
                case 10: s.setN(a, Reals.compared(s.f(b), s.f(c))); return FINE;
                default: change(s, a, b, c); return FINE;
            }
        }

        private static boolean isDivision(int b) {
            return b == DIVIDE || b == REST;
        }

        private static int joinLongs(Strand s, int a, int b, int c) {
            long x = s.n(a);
            long y = s.n(c);
            if (isDivision(b)) {
                if (y == 0) {
                    return ZERO;
                }
                s.setN(a, b == DIVIDE ? x / y : x % y);
            } else {
                s.setN(a, joined(b, x, y));
            }
            return FINE;
        }

        private static long joined(int b, long x, long y) {
            switch (b) {
                case 0: return x + y;
                case 1: return x - y;
                case 2: return x * y;
                case 5: return x << y;
                case 6: return x >> y;
                case 7: return x >>> y;
                case 8: return x & y;
                case 9: return x | y;
                case 10: return x ^ y;
                default: return Long.compare(x, y);
            }
        }

        private static int joinInts(Strand s, int a, int b, int c) {
            int x = (int) s.n(a);
            int y = (int) s.n(c);
            if (isDivision(b)) {
                if (y == 0) {
                    return ZERO;
                }
                s.setN(a, b == DIVIDE ? x / y : x % y);
            } else {
                s.setN(a, joinedInts(b, x, y));
            }
            return FINE;
        }

        private static int joinedInts(int b, int x, int y) {
            switch (b) {
                case 0: return x + y;
                case 1: return x - y;
                case 2: return x * y;
                case 5: return x << y;
                case 6: return x >> y;
                case 7: return x >>> y;
                case 8: return x & y;
                case 9: return x | y;
                case 10: return x ^ y;
                default: return Integer.compare(x, y);
            }
        }

        private int joinDoubles(Strand s, int a, int b, int c) {
            double x = s.x(a);
            double y = s.x(c);
            if (isNoNumber(b, x, y)) {
                return ENDLESS;
            }
            switch (b) {
                case 0: s.setX(a, x + y); break;
                case 1: s.setX(a, x - y); break;
                case 2: s.setX(a, x * y); break;
                case 3: s.setX(a, x / y); break;
                default: s.setX(a, chosen(b, x, y)); break;
            }
            return FINE;
        }

        /** The first four round as floats do; what the others answer is a float in any case. */
        private int joinFloats(Strand s, int a, int b, int c) {
            float x = s.f(a);
            float y = s.f(c);
            if (isNoNumber(b, x, y)) {
                return ENDLESS;
            }
            switch (b) {
                case 0: s.setF(a, x + y); break;
                case 1: s.setF(a, x - y); break;
                case 2: s.setF(a, x * y); break;
                case 3: s.setF(a, x / y); break;
                default: s.setF(a, (float) chosen(b, x, y)); break;
            }
            return FINE;
        }

        private static boolean isNoNumber(int b, double x, double y) {
            boolean xEndless = Reals.isEndless(x);
            boolean yEndless = Reals.isEndless(y);
            switch (b) {
                case 0: return xEndless && yEndless && x != y;
                case 1: return xEndless && yEndless && x == y;
                case 2: return (x == 0.0 && yEndless) || (xEndless && y == 0.0);
                case 3: return (x == 0.0 && y == 0.0) || (xEndless && yEndless);
                case 4: return xEndless || y == 0.0;
                default: return false;
            }
        }

        private double chosen(int b, double x, double y) {
            switch (b) {
                case 4: return reals.remainder(x, y);
                case 5: return Reals.greater(x, y);
                case 6: return Reals.lesser(x, y);
                default: return Reals.withSignOf(x, y);
            }
        }

        private static double mapped(int b, double x) {
            switch (b) {
                case 0: return Reals.withoutSign(x);
                case 1: return Reals.floor(x);
                case 2: return Reals.ceiling(x);
                case 3: return Reals.nearest(x);
                case 4: return Reals.signOf(x);
                default: return -x;
            }
        }

        private static void change(Strand s, int a, int b, int c) {
            switch (b) {
                case 0: s.setX(a, (double) s.n(c)); break;
                case 1: s.setN(a, (long) s.x(c)); break;
                case 2: s.setN(a, (int) s.x(c)); break;
                case 3: s.setF(a, (float) s.n(c)); break;
                case 4: s.setN(a, (long) s.f(c)); break;
                case 5: s.setN(a, (int) s.f(c)); break;
                case 6: s.setX(a, (double) s.f(c)); break;
                case 7: s.setF(a, (float) s.x(c)); break;
                case 8: s.setN(a, (byte) s.n(c)); break;
                case 9: s.setN(a, (short) s.n(c)); break;
                case 10: s.setN(a, (char) s.n(c)); break;
                default: s.setN(a, (int) s.n(c)); break;
            }
        }
    }

    /** ACTS on whole THINGS: 12 to 18, 46 to 50. */
    static final class HoldActs {
        private static final int MOST_ROWS = 6;

        private final Store store;

        HoldActs(Store store) {
            this.store = store;
        }

        int perform(Strand s, int op, int a, int b, int c) {
            switch (op) {
                case 12: s.setT(a, s.t(c)); return FINE;
                case 13: s.setT(a, null); return FINE;
                case 14: return makeRow(s, a, b, s.n(c));
                case 15: return makeRow(s, a, NODE_ROW + b, s.n(c));
                case 16: return makeRows(s, a, INT_ROWS, s.n(b), s.n(c));
                case 17: return makeRows(s, a, DOUBLE_ROWS, s.n(b), s.n(c));
                case 18: return makeObject(s, a, b);
                case 46: return copyItems(s, s.t(a), s.t(b));
                case 47: return copyRow(s, a, s.t(b));
                case 48: s.setN(a, isA(s.t(b), c) ? 1 : 0); return FINE;
                case 49: return takeAs(s, a, s.t(b), c);
                default: s.setN(a, s.t(b) == s.t(c) ? 1 : 0); return FINE;
            }
        }

        private static boolean isA(Thing held, int kind) {
            return held != null && held.isA(kind);
        }

        private int makeRow(Strand s, int a, int sort, long items) {
            if (items > Thing.MOST_ITEMS || !store.hasRoomFor(1)) {
                return ROOM;
            }
            if (items < 0) {
                return SIZE;
            }
            s.setT(a, store.make(sort, (int) items));
            return FINE;
        }

        private int makeRows(Strand s, int a, int sort, long rows, long items) {
            if (items > Thing.MOST_ITEMS || rows > MOST_ROWS || !store.hasRoomFor(1 + (int) Math.max(0L, rows))) {
                return ROOM;
            }
            if (rows < 0 || items < 0) {
                return SIZE;
            }
            Thing outer = store.make(sort, (int) rows);
            if (outer == null) {
                return ROOM;
            }
            for (int i = 0; i < rows; i++) {
                outer.parts[i] = store.make(sort == INT_ROWS ? INTS : DOUBLES, (int) items);
            }
            s.setT(a, outer);
            return FINE;
        }

        private int makeObject(Strand s, int a, int ofClass) {
            if (!store.hasRoomFor(1)) {
                return ROOM;
            }
            s.setT(a, store.make(NODE + ofClass, 0));
            return FINE;
        }

        private static int copyItems(Strand s, Thing from, Thing to) {
            if (from == null || to == null) {
                return NULL;
            }
            if (from.sort != to.sort || from.sort > DOUBLES) {
                return STORE;
            }
            long first = s.n(5);
            long goal = s.n(6);
            long many = s.n(7);
            if (!from.hasItems(first, many) || !to.hasItems(goal, many)) {
                return INDEX;
            }
            if (from.sort < FLOATS) {
                System.arraycopy(from.wholes, (int) first, to.wholes, (int) goal, (int) many);
            } else {
                System.arraycopy(from.reals, (int) first, to.reals, (int) goal, (int) many);
            }
            return FINE;
        }

        private int copyRow(Strand s, int a, Thing row) {
            if (row == null) {
                return NULL;
            }
            if (!row.isRow()) {
                return CAST;
            }
            Thing copy = store.make(row.sort, row.length);
            if (copy == null) {
                return ROOM;
            }
            for (int i = 0; i < Thing.MOST_ITEMS; i++) {
                copy.wholes[i] = row.wholes[i];
                copy.reals[i] = row.reals[i];
                copy.parts[i] = row.parts[i];
            }
            s.setT(a, copy);
            return FINE;
        }

        private static int takeAs(Strand s, int a, Thing held, int kind) {
            if (held != null && !held.isA(kind)) {
                return CAST;
            }
            s.setT(a, held);
            return FINE;
        }
    }

    /** ACTS on the ITEMS of ROWS: 20 to 45. */
    static final class ItemActs {
        private static final int GET = 20, SET = 28, GET_PART = 36, SET_PART = 39, LENGTH = 42, GET_LONG = 43,
                GET_DOUBLE = 44;

        static int perform(Strand s, int op, int a, int b, int c) {
            Thing row = s.t(b);
            if (op < SET) {
                return getItem(s, op - GET, a, row, s.n(c));
            }
            if (op < GET_PART) {
                return setItem(s, op - SET, a, row, s.n(c));
            }
            if (op < SET_PART) {
                return getPart(s, rowKind(op - GET_PART), a, row, s.n(c));
            }
            if (op < LENGTH) {
                return setPart(s.t(a), rowKind(op - SET_PART), row, s.n(c));
            }
            if (op == LENGTH) {
                return getLength(s, a, row);
            }
            if (op == GET_LONG) {
                return getLong(s, a, row, s.n(c));
            }
            return op == GET_DOUBLE ? getDouble(s, a, row, s.n(c)) : setWidened(s.n(a), row, s.n(c));
        }

        private static int rowKind(int which) {
            return which == 0 ? NODE_ROW : which == 1 ? INT_ROWS : DOUBLE_ROWS;
        }

        private static int partKind(int rowKind) {
            return rowKind == NODE_ROW ? NODE : rowKind == INT_ROWS ? INTS : DOUBLES;
        }

        private static int getItem(Strand s, int sort, int a, Thing row, long i) {
            if (row == null) {
                return NULL;
            }
            if (row.sort != sort) {
                return CAST;
            }
            if (!row.hasItem(i)) {
                return INDEX;
            }
            int at = (int) i;
            if (sort == FLOATS) {
                s.setF(a, (float) row.reals[at]);
            } else if (sort == DOUBLES) {
                s.setX(a, row.reals[at]);
            } else {
                s.setN(a, row.wholes[at]);
            }
            return FINE;
        }

        private static int setItem(Strand s, int sort, int a, Thing row, long i) {
            if (row == null) {
                return NULL;
            }
            if (row.sort != sort) {
                return CAST;
            }
            if (!row.hasItem(i)) {
                return INDEX;
            }
            int at = (int) i;
            if (sort == FLOATS) {
                row.reals[at] = s.f(a);
            } else if (sort == DOUBLES) {
                row.reals[at] = s.x(a);
            } else {
                row.wholes[at] = narrowed(sort, s.n(a));
            }
            return FINE;
        }

        private static long narrowed(int sort, long value) {
            switch (sort) {
                case TRUTHS: return value != 0 ? 1 : 0;
                case BYTES: return (byte) value;
                case SHORTS: return (short) value;
                case CHARS: return (char) value;
                case INTS: return (int) value;
                default: return value;
            }
        }

        private static int getPart(Strand s, int kind, int a, Thing row, long i) {
            if (row == null) {
                return NULL;
            }
            if (!row.isA(kind)) {
                return CAST;
            }
            if (!row.hasItem(i)) {
                return INDEX;
            }
            s.setT(a, row.parts[(int) i]);
            return FINE;
        }

        private static int setPart(Thing part, int kind, Thing row, long i) {
            if (row != null && !row.isA(kind)) {
                return CAST;
            }
            if (part != null && !part.isA(partKind(kind))) {
                return CAST;
            }
            if (row == null) {
                return NULL;
            }
            if (!row.hasItem(i)) {
                return INDEX;
            }
            if (kind == NODE_ROW && part != null && !part.isA(row.sort - NODE_ROW + NODE)) {
                return STORE;
            }
            row.parts[(int) i] = part;
            return FINE;
        }

        private static int getLength(Strand s, int a, Thing row) {
            if (row == null) {
                return NULL;
            }
            if (!row.isRow()) {
                return KIND;
            }
            s.setN(a, row.length);
            return FINE;
        }

        private static int getLong(Strand s, int a, Thing row, long i) {
            if (row == null) {
                return NULL;
            }
            if (row.sort < BYTES || row.sort > LONGS) {
                return KIND;
            }
            if (!row.hasItem(i)) {
                return INDEX;
            }
            s.setN(a, row.wholes[(int) i]);
            return FINE;
        }

        private static int getDouble(Strand s, int a, Thing row, long i) {
            if (row == null) {
                return NULL;
            }
            if (row.sort < BYTES || row.sort > DOUBLES) {
                return KIND;
            }
            if (!row.hasItem(i)) {
                return INDEX;
            }
            int at = (int) i;
            s.setX(a, row.sort < FLOATS ? (double) row.wholes[at] : row.reals[at]);
            return FINE;
        }

        private static int setWidened(long value, Thing row, long i) {
            if (row == null) {
                return NULL;
            }
            if (row.sort < INTS || row.sort > DOUBLES) {
                return KIND;
            }
            if (!row.hasItem(i)) {
                return INDEX;
            }
            int at = (int) i;
            int widened = (int) value;
            if (row.sort < FLOATS) {
                row.wholes[at] = widened;
            } else if (row.sort == FLOATS) {
                row.reals[at] = (float) widened;
            } else {
                row.reals[at] = widened;
            }
            return FINE;
        }
    }

    /** ACTS on the fields and METHODS of OBJECTS: 51 to 57; THE TRACE. */
    static final class ObjectActs {
        private final Reals reals;
        int traced;

        ObjectActs(Reals reals) {
            this.reals = reals;
        }

        int perform(Strand s, int op, int a, int b, int c) {
            if (op == 51) {
                return getField(s, a, b, s.t(c));
            }
            if (op == 52) {
                return setField(s, a, b, s.t(c));
            }
            Thing object = s.t(b);
            if (object == null) {
                return NULL;
            }
            if (!object.isA(op == 56 ? BLOOMS : op == 57 ? HARD : WEIGHS)) {
                return CAST;
            }
            switch (op) {
                case 53: s.setN(a, weigh(object, s.n(c))); return FINE;
                case 54: return askMeasure(s, a, object);
                case 55: s.setN(a, tally(object)); return FINE;
                case 56: s.setN(a, bloom(object, s.n(c))); return FINE;
                default: s.setX(a, hardness(object)); return FINE;
            }
        }

        private static int ownerOf(int field) {
            return field == 7 ? LEAF : field == 8 ? TWIG : NODE;
        }

        private static int getField(Strand s, int a, int field, Thing object) {
            if (object == null) {
                return NULL;
            }
            if (!object.isA(ownerOf(field))) {
                return CAST;
            }
            switch (field) {
                case 0: s.setN(a, object.n); break;
                case 1: s.setX(a, object.x); break;
                case 2: s.setF(a, object.f); break;
                case 3: s.setT(a, object.next); break;
                case 4: s.setT(a, object.line); break;
                case 5: s.setN(a, object.tally); break;
                case 6: s.setN(a, object.nodeMark); break;
                case 7: s.setN(a, object.leafMark); break;
                default: s.setN(a, object.twigMark); break;
            }
            return FINE;
        }

        private static int setField(Strand s, int a, int field, Thing object) {
            if (object != null && !object.isA(ownerOf(field))) {
                return CAST;
            }
            Thing value = field == 3 || field == 4 ? s.t(a) : null;
            if (value != null && !value.isA(field == 3 ? NODE : INTS)) {
                return CAST;
            }
            if (object == null) {
                return NULL;
            }
            switch (field) {
                case 0: object.n = s.n(a); break;
                case 1: object.x = s.x(a); break;
                case 2: object.f = s.f(a); break;
                case 3: object.next = value; break;
                case 4: object.line = value; break;
                case 6: object.nodeMark = (int) s.n(a); break;
                case 7: object.leafMark = (int) s.n(a); break;
                default: object.twigMark = (int) s.n(a); break;
            }
            return FINE;
        }

        private void begin(int body) {
            traced = 31 * traced + body;
        }

        private long weigh(Thing object, long v) {
            switch (object.sort) {
                case NODE: return nodeWeigh(object, v);
                case TWIG:
                    begin(3);
                    return leafWeigh(object, v) - object.twigMark;
                case STONE:
                    begin(4);
                    return 0 - nodeWeigh(object, v);
                default: return leafWeigh(object, v);
            }
        }

        private long nodeWeigh(Thing object, long v) {
            begin(1);
            return object.n + v;
        }

        private long leafWeigh(Thing object, long v) {
            begin(2);
            return 2 * nodeWeigh(object, v) + object.leafMark;
        }

        private int askMeasure(Strand s, int a, Thing object) {
            switch (object.sort) {
                case NODE: s.setX(a, nodeMeasure(object)); return FINE;
                case LEAF: s.setX(a, leafMeasure(object)); return FINE;
                case STONE: return askStoneMeasure(s, a, object.x);
                default:
                    begin(7);
                    s.setX(a, 2.0 * leafMeasure(object));
                    return FINE;
            }
        }

        private double nodeMeasure(Thing object) {
            begin(5);
            return object.x;
        }

        private double leafMeasure(Thing object) {
            begin(6);
            return object.x + nodeMeasure(object);
        }

        private int askStoneMeasure(Strand s, int a, double x) {
            begin(8);
            if (Reals.isEndless(x)) {
                return ENDLESS;
            }
            s.setX(a, reals.remainder(x, 4.0));
            return FINE;
        }

        private int tally(Thing object) {
            switch (object.sort) {
                case NODE:
                case STONE: return nodeTally(object);
                case TWIG:
                    begin(11);
                    return leafTally(object) + object.nodeMark;
                default: return leafTally(object);
            }
        }

        private int nodeTally(Thing object) {
            begin(9);
            object.tally++;
            return object.tally;
        }

        private int leafTally(Thing object) {
            begin(10);
            nodeTally(object);
            return nodeTally(object);
        }

        private long bloom(Thing object, long v) {
            begin(12);
            return 3 * v + petals(object);
        }

        private int petals(Thing object) {
            if (object.sort == TWIG) {
                begin(14);
                return 7 + object.leafMark;
            }
            begin(13);
            return 5;
        }

        private double hardness(Thing object) {
            begin(15);
            return 2.0 * Reals.withoutSign(object.f);
        }
    }

    /** The ACTS of a THREAD one behind the other: HANDLERS, CALLS, LOCKS; ACTS 58 to 65. */
    static final class Mover {
        static final int GOES_ON = 1;
        private static final int ENDED = 0, HAS_TO_WAIT = 2, ENDED_BY = -10;
        private static final int FIRST_HOLD_OP = 12, FIRST_ITEM_OP = 20, FIRST_COPY_OP = 46, FIRST_OBJECT_OP = 51,
                FIRST_OWN_OP = 58;
        private static final int FAILURES_BORNE = 20;

        private final Program[] programs;
        private final NumberActs numbers;
        private final HoldActs holds;
        private final ObjectActs objects;

        Mover(Program[] programs, NumberActs numbers, HoldActs holds, ObjectActs objects) {
            this.programs = programs;
            this.numbers = numbers;
            this.holds = holds;
            this.objects = objects;
        }

        /** The next ACT, and what turn() would answer behind it. */
        int step(Strand s) {
            Program program = goingOn(s);
            if (program == null) {
                return ENDED;
            }
            int place = s.place();
            int op = program.part(place, 0);
            int a = program.part(place, 1);
            int b = program.part(place, 2);
            int c = program.part(place, 3);
            int outcome;
            if (op >= FIRST_OWN_OP) {
                outcome = steer(s, op, a, b, c);
            } else if (op < FIRST_HOLD_OP) {
                outcome = numbers.perform(s, op, a, b, c);
            } else if (op >= FIRST_OBJECT_OP) {
                outcome = objects.perform(s, op, a, b, c);
            } else if (op < FIRST_ITEM_OP || op >= FIRST_COPY_OP) {
                outcome = holds.perform(s, op, a, b, c);
            } else {
                outcome = ItemActs.perform(s, op, a, b, c);
            }
            if (outcome == WAITS) {
                return HAS_TO_WAIT;
            }
            if (outcome != FINE) {
                return fail(s, program, outcome);
            }
            s.done++;
            if (op < FIRST_OWN_OP) {
                s.goTo(place + 1);
            }
            return goingOn(s) == null ? ENDED : GOES_ON;
        }

        /** The PROGRAM that has the next ACT, those behind their last ACT being ended; or null. */
        private static Program goingOn(Strand s) {
            for (int k = 0; k < Strand.MOST_DEEP; k++) {
                Program program = s.latestCalled();
                if (program == null || program.hasPlace(s.place())) {
                    return program;
                }
                s.leave();
            }
            return null;
        }

        private int steer(Strand s, int op, int a, int b, int c) {
            int behind = s.place() + 1;
            switch (op) {
                case 58: return b == -1 ? NULL : b;
                case 59: s.goTo(a); return FINE;
                case 60: s.goTo(isSo(c, s.n(b)) ? a : behind); return FINE;
                case 61: s.goTo(s.t(b) == null ? a : behind); return FINE;
                case 62: return a >= 0 && a < programs.length && s.enter(programs[a]) ? FINE : ROOM;
                case 63: s.leave(); return FINE;
                case 64: return lock(s, s.t(b), behind);
                default: return unlock(s, s.t(b), behind);
            }
        }

        private static boolean isSo(int test, long value) {
            switch (test) {
                case 0: return value == 0;
                case 1: return value != 0;
                case 2: return value < 0;
                default: return value > 0;
            }
        }

        private static int lock(Strand s, Thing locked, int behind) {
            if (locked == null) {
                return NULL;
            }
            if (locked.owner != NONE && locked.owner != s.index) {
                s.wanted = locked;
                return WAITS;
            }
            locked.owner = s.index;
            locked.times++;
            s.goTo(behind);
            return FINE;
        }

        private static int unlock(Strand s, Thing locked, int behind) {
            if (locked == null) {
                return NULL;
            }
            if (locked.owner != s.index) {
                return OWNER;
            }
            locked.times--;
            if (locked.times == 0) {
                locked.letGo();
            }
            s.goTo(behind);
            return FINE;
        }

        /** SPENT, or a HANDLER is looked for from here down to the PROGRAM of start(). */
        private static int fail(Strand s, Program failing, int failure) {
            s.note(failure, failing);
            if (s.failedNow > FAILURES_BORNE) {
                s.latest = SPENT;
                s.depth = 0;
                return ENDED_BY - SPENT;
            }
            for (int k = 0; k < Strand.MOST_DEEP; k++) {
                Program program = s.latestCalled();
                if (program == null) {
                    break;
                }
                int place = program.handlingPlace(s.place(), failure);
                if (place != NONE) {
                    s.setN(7, failure);
                    s.goTo(place);
                    return goingOn(s) == null ? ENDED : GOES_ON;
                }
                s.depth--;
            }
            return ENDED_BY - failure;
        }
    }
}
