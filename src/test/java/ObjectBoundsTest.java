import java.util.function.Consumer;

/** ACTS 51 to 57 and the METHODS of paragraph 1: who has which field and METHOD, wrap-around, ENDLESS, THE TRACE. */
public final class ObjectBoundsTest {
    private static final int NULL = 1, CAST = 3, ENDLESS = 8;
    private static final int L = Integer.MIN_VALUE, M = Integer.MAX_VALUE;
    private static final long LEAST = Long.MIN_VALUE, MOST = Long.MAX_VALUE;
    private static final double E = Double.POSITIVE_INFINITY;
    private static final int[] SORTS = {0, 1, 2, 3, 4, 5, 6, 7, 8, 9, 10, 11, 12, 13, 14, 16, 17, 18, 19, 20};

    public static void main(String[] args) {
        fieldsOfEachSort();
        fieldsOfNone();
        fieldsThatTake();
        castBeforeNull();
        marksAsInts();
        fieldsAtTheirEdges();
        methodsOfEachSort();
        methodsOfNone();
        weighWraps();
        measureAtItsEdges();
        measureOfStones();
        countWraps();
        bloomWraps();
        hardnessAtItsEdges();
        traceOfWhatFails();
        Check.end();
    }

    private static boolean hasField(int sort, int b) {
        return b == 8 ? sort == 19 : b == 7 ? sort >= 17 && sort <= 19 : sort >= 16;
    }

    private static int register(int b) {
        return b == 1 || b == 2 ? 3 : 7;
    }

    private static Consumer<Witness> holding(int sort) {
        return x -> x.holdThing(5, sort, sort < 16 ? 1 : 0);
    }

    /** "T c TAKEN as a NODE (7 LEAF, 8 TWIG)". */
    private static void fieldsOfEachSort() {
        for (int sort : SORTS) {
            for (int b = 0; b <= 8; b++) {
                String what = "field " + b + " of sort " + sort;
                if (hasField(sort, b)) {
                    Twins.does("get " + what, holding(sort), 51, register(b), b, 5);
                } else {
                    Twins.fails("get " + what, CAST, holding(sort), 51, register(b), b, 5);
                }
                if (b == 5) {
                    continue;
                }
                if (hasField(sort, b)) {
                    Twins.does("set " + what, holding(sort), 52, register(b), b, 5);
                } else {
                    Twins.fails("set " + what, CAST, holding(sort), 52, register(b), b, 5);
                }
            }
        }
    }

    private static void fieldsOfNone() {
        for (int b = 0; b <= 8; b++) {
            Twins.fails("get field " + b + " of none", NULL, Twins::nothing, 51, register(b), b, 5);
            if (b != 5) {
                Twins.fails("set field " + b + " of none", NULL, Twins::nothing, 52, register(b), b, 5);
            }
        }
    }

    /** "NEXT TAKEN as a NODE, LINE as SORT 4": all SORTS, and none. */
    private static void fieldsThatTake() {
        for (int sort : SORTS) {
            Consumer<Witness> made = x -> {
                x.holdThing(4, 16, 0);
                x.holdThing(5, sort, sort < 16 ? 1 : 0);
                x.run(0, 52, 4, 3, 4);
            };
            if (sort >= 16) {
                Check.due("NEXT", Twins.does("NEXT of sort " + sort, made, 52, 5, 3, 4).field(0, 3), 1);
            } else {
                Twins.fails("NEXT of sort " + sort, CAST, made, 52, 5, 3, 4);
            }
            if (sort == 4) {
                Check.due("LINE", Twins.does("LINE of sort " + sort, made, 52, 5, 4, 4).field(0, 4), 1);
            } else {
                Twins.fails("LINE of sort " + sort, CAST, made, 52, 5, 4, 4);
            }
            Check.due("NEXT none", Twins.does("NEXT of none", made, 52, 2, 3, 4).field(0, 3), -1);
            Check.due("LINE none", Twins.does("LINE of none", made, 52, 2, 4, 4).field(0, 4), -1);
        }
    }

    /** CAST of what comes behind T c, though T c is none; with one that fits, or none, NULL. */
    private static void castBeforeNull() {
        for (int sort : SORTS) {
            Twins.fails("NEXT of none, sort " + sort, sort >= 16 ? NULL : CAST, holding(sort), 52, 5, 3, 2);
            Twins.fails("LINE of none, sort " + sort, sort == 4 ? NULL : CAST, holding(sort), 52, 5, 4, 2);
        }
        Twins.fails("NEXT of none, none", NULL, Twins::nothing, 52, 5, 3, 2);
        Twins.fails("LINE of none, none", NULL, Twins::nothing, 52, 5, 4, 2);
        Twins.fails("what T c is not, and NEXT is not", CAST, holding(5), 52, 5, 3, 5);
        Twins.fails("what T c is not, NEXT none", CAST, holding(5), 52, 4, 3, 5);
    }

    /** "(MARKS as an int)". */
    private static void marksAsInts() {
        for (long edge : new long[] {M, L, 1L << 31, 1L << 32, (1L << 32) - 1, L - 1L, LEAST, MOST, 0}) {
            for (int b = 6; b <= 8; b++) {
                Witness x = Twins.does("MARK", w -> {
                    w.holdThing(5, 19, 0);
                    w.setNumber(7, edge);
                }, 52, 7, b, 5);
                for (int other = 5; other <= 8; other++) {
                    Check.due("MARK " + other + " by " + edge, x.field(0, other), other == b ? (int) edge : 0);
                }
                Check.due("get", x.run(0, 51, 3, b, 5), 0);
                Check.due("got", x.number(0, 3), (int) edge);
            }
        }
    }

    private static void fieldsAtTheirEdges() {
        for (long edge : new long[] {LEAST, MOST, -1, 0, 1L << 32}) {
            Witness x = Twins.does("n", w -> {
                w.holdThing(5, 16, 0);
                w.setNumber(7, edge);
            }, 52, 7, 0, 5);
            Check.due("n", x.field(0, 0), edge);
            Check.due("get", x.run(0, 51, 3, 0, 5), 0);
            Check.due("got", x.number(0, 3), edge);
        }
        for (double edge : new double[] {E, -E, -0.0, 0.0, -2.5}) {
            Witness x = new Witness();
            x.holdThing(5, 20, 0);
            x.setReal(3, edge);
            Check.due("x, f", x.run(0, 52, 3, 1, 5, 52, 3, 2, 5, 51, 0, 1, 5, 51, 0, 2, 5), 0);
            Check.dueBits("x", x.field(0, 1), edge);
            Check.dueSmallBits("f", x.field(0, 2), (float) edge);
            Check.dueBits("x got", x.real(0, 0), edge);
            Check.dueSmallBits("f got", x.small(0, 0), (float) edge);
        }
        Witness x = new Witness();
        x.holdThing(5, 16, 0);
        x.holdThing(4, 4, 0);
        Check.due("an object that is its own NEXT", x.run(0, 52, 5, 3, 5, 51, 6, 3, 5, 51, 4, 4, 5, 55, 0, 5, 0,
                51, 1, 5, 5), 0);
        Check.due("NEXT", x.field(0, 3), 0);
        Check.due("NEXT got", x.hold(0, 6), 0);
        Check.due("LINE none got", x.hold(0, 4), -1);
        Check.due("TALLY got", x.number(0, 1), 1);
        x.holdThing(4, 4, 0);
        Check.due("LINE", x.run(0, 52, 4, 4, 5, 51, 7, 4, 5, 13, 4, 0, 0), 0);
        Check.due("LINE got", x.hold(0, 7), 2);
    }

    /** "T b TAKEN as WEIGHS. 56 .. as BLOOMS. 57 .. as HARD". */
    private static void methodsOfEachSort() {
        for (int sort : SORTS) {
            for (int op = 53; op <= 57; op++) {
                boolean has = op == 56 ? sort == 18 || sort == 19 : op == 57 ? sort == 20 : sort >= 16;
                int a = op == 54 || op == 57 ? 3 : 7;
                if (has) {
                    Twins.does(op + " of sort " + sort, holding(sort), op, a, 5, 6);
                } else {
                    Twins.fails(op + " of sort " + sort, CAST, holding(sort), op, a, 5, 6);
                }
            }
        }
    }

    private static void methodsOfNone() {
        for (int op = 53; op <= 57; op++) {
            Twins.fails(op + " of none", NULL, Twins::nothing, op, op == 54 || op == 57 ? 3 : 7, 5, 6);
        }
    }

    private static int traced(int... bodies) {
        int trace = 0;
        for (int body : bodies) {
            trace = 31 * trace + body;
        }
        return trace;
    }

    /** An OBJECT of a CLASS in T 5, its n and its MARKS (as far as it has them) as told; v in N 7. */
    private static Consumer<Witness> filled(int sort, long n, int[] marks, long v) {
        return x -> {
            x.holdThing(5, sort, 0);
            x.setNumber(7, n);
            x.run(0, 52, 7, 0, 5);
            for (int k = 0; k < 3; k++) {
                if (hasField(sort, 6 + k)) {
                    x.setNumber(7, marks[k]);
                    Check.due("a mark", x.run(0, 52, 7, 6 + k, 5), 0);
                }
            }
            x.setNumber(7, v);
        };
    }

    /** "all wrap as Java does": WEIGH with longs, MARKS at their ends. */
    private static void weighWraps() {
        int[][] traces = {{1}, {2, 1}, {2, 1}, {3, 2, 1}, {4, 1}};
        long[][] edges = {{MOST, 1}, {MOST, 0}, {LEAST, -1}, {LEAST, 0}, {LEAST, LEAST}, {1L << 62, 0}, {0, 0}};
        int[][] marks = {{M, M, L}, {L, L, M}, {7, 70, 700}};
        for (int c = 0; c <= 4; c++) {
            for (long[] edge : edges) {
                for (int[] mark : marks) {
                    long node = edge[0] + edge[1];
                    long leaf = 2 * node + mark[1];
                    long[] due = {node, leaf, leaf, leaf - mark[2], -node};
                    Witness x = Twins.does("WEIGH", filled(16 + c, edge[0], mark, edge[1]), 53, 6, 5, 7);
                    Check.due("WEIGH of class " + c + ": " + edge[0] + " " + edge[1], x.number(0, 6), due[c]);
                    Check.due("trace", x.trace(), traced(traces[c]));
                }
            }
        }
    }

    private static Consumer<Witness> filledReal(int sort, double real) {
        return w -> {
            w.holdThing(5, sort, 0);
            w.setReal(2, real);
            w.run(0, 52, 2, 1, 5, 52, 2, 2, 5);
        };
    }

    private static void measureAtItsEdges() {
        int[][] traces = {{5}, {6, 5}, {7, 6, 5}, {7, 6, 5}};
        for (double edge : new double[] {E, -E, 0.0, -0.0, 2.5, -2.5}) {
            double[] due = {edge, 2 * edge, 4 * edge, 4 * edge};
            for (int c = 0; c <= 3; c++) {
                Witness x = Twins.does("MEASURE", filledReal(16 + c, edge), 54, 3, 5, 0);
                Check.dueBits("MEASURE of class " + c + " of " + edge, x.real(0, 3), due[c]);
                Check.due("trace", x.trace(), traced(traces[c]));
            }
        }
        // 2 to the 1023: a NODE's MEASURE is a number, a LEAF's (twice it) endless
        for (int c = 0; c <= 1; c++) {
            Witness x = new Witness();
            x.holdThing(5, 16 + c, 0);
            Check.due("2 to the 1023", x.run(0, 1, 0, 1, 60, 5, 0, 2, 0, 5, 0, 2, 0, 5, 0, 2, 0, 5, 0, 2, 0,
                    1, 1, 1, 60, 5, 0, 2, 1, 1, 1, 1, 3, 5, 0, 2, 1, 52, 0, 1, 5, 54, 3, 5, 0), 0);
            Check.dueBits("MEASURE", x.real(0, 3), c == 0 ? 0x1p1023 : E);
        }
    }

    /** "x % 4.0; ENDLESS, if x is": with the sign of x, and 4.0 itself leaves 0.0. */
    private static void measureOfStones() {
        double[] edges = {0.0, -0.0, 0.25, -0.25, 3.75, -3.75, 4.0, -4.0, 4.25, -4.25, 8.0, -8.0, 1000002.5};
        for (double edge : edges) {
            Witness x = Twins.does("MEASURE", filledReal(20, edge), 54, 3, 5, 0);
            Check.dueBits("MEASURE of a stone of " + edge, x.real(0, 3), edge % 4.0);
            Check.due("trace", x.trace(), 8);
        }
        for (double endless : new double[] {E, -E}) {
            Witness x = new Witness();
            filledReal(20, endless).accept(x);
            x.setReal(3, 9.0);
            int failed = x.told(0, 1);
            Check.due("MEASURE of an endless stone", x.run(0, 54, 3, 5, 0), -10 - ENDLESS);
            Check.dueBits("X 3 stays", x.real(0, 3), 9.0);
            Check.due("its body was begun", x.trace(), 8);
            Check.due("failures", x.told(0, 1), failed + 1);
            Check.due("the latest", x.told(0, 2), ENDLESS);
        }
    }

    private static void countWraps() {
        int[][] traces = {{9}, {10, 9, 9}, {10, 9, 9}, {11, 10, 9, 9}, {9}};
        for (int mark : new int[] {0, 7, M, M - 1, M - 2, L, -1}) {
            int[] due = {1, 2, 2, 2 + mark, 1};
            for (int c = 0; c <= 4; c++) {
                Witness x = Twins.does("COUNT", filled(16 + c, 5, new int[] {mark, 70, 700}, 0), 55, 6, 5, 0);
                Check.due("COUNT of class " + c + " with " + mark, x.number(0, 6), due[c]);
                Check.due("TALLY", x.field(0, 5), c >= 1 && c <= 3 ? 2 : 1);
                Check.due("trace", x.trace(), traced(traces[c]));
            }
        }
    }

    private static void bloomWraps() {
        for (long v : new long[] {0, 1, MOST, LEAST, 1L << 62, MOST / 3, MOST / 3 + 1}) {
            for (int mark : new int[] {0, M, M - 7, M - 6, L}) {
                int[] marks = {5, mark, 700};
                Witness bud = Twins.does("BLOOM", filled(18, 0, marks, v), 56, 6, 5, 7);
                Check.due("BLOOM of a bud with " + v, bud.number(0, 6), 3 * v + 5);
                Check.due("trace", bud.trace(), traced(12, 13));
                Witness twig = Twins.does("BLOOM", filled(19, 0, marks, v), 56, 6, 5, 7);
                Check.due("BLOOM of a twig with " + v + " and " + mark, twig.number(0, 6), 3 * v + (7 + mark));
                Check.due("trace", twig.trace(), traced(12, 14));
            }
        }
    }

    /** "f without its sign, as a double, twice": twice the greatest float is a double still. */
    private static void hardnessAtItsEdges() {
        for (double edge : new double[] {E, -E, 0.0, -0.0, 2.5, -2.5}) {
            Witness x = Twins.does("HARDNESS", filledReal(20, edge), 57, 3, 5, 0);
            Check.dueBits("HARDNESS of " + edge, x.real(0, 3), 2 * Math.abs(edge));
            Check.due("trace", x.trace(), 15);
        }
        Witness x = new Witness();
        x.holdThing(5, 20, 0);
        Check.due("-2 to the 127", x.run(0, 1, 0, -1, 60, 1, 1, 1, 60, 5, 0, 2, 1, 1, 1, 1, 7, 5, 0, 2, 1, 11, 0, 7, 0,
                52, 0, 2, 5, 57, 3, 5, 0), 0);
        Check.dueBits("HARDNESS", x.real(0, 3), 0x1p128);
    }

    /** NULL and CAST come before any body: Twins asks this of each; ENDLESS comes in one. */
    private static void traceOfWhatFails() {
        Witness x = new Witness();
        x.holdThing(5, 19, 0);
        x.holdThing(4, 4, 1);
        Check.due("a WEIGH", x.run(0, 53, 6, 5, 7), 0);
        int trace = x.trace();
        Check.due("trace", trace, traced(3, 2, 1));
        for (int op = 53; op <= 57; op++) {
            Check.due(op + " of a row", x.run(0, op, 0, 4, 0), -10 - CAST);
            Check.due(op + " of none", x.run(0, op, 0, 3, 0), -10 - NULL);
        }
        Check.due("57 of a twig", x.run(0, 57, 0, 5, 0), -10 - CAST);
        Check.due("trace", x.trace(), trace);
    }
}
