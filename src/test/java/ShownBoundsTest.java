/** Promises 7 to 16: what is shown, at the first and the last number that is taken, and beside them. */
public final class ShownBoundsTest {
    private static final int L = Integer.MIN_VALUE, M = Integer.MAX_VALUE;
    private static final int NONE = -1, BAD = -1, BAD_BESIDE_NONE = -2;
    private static final long LOST = Long.MIN_VALUE;

    public static void main(String[] args) {
        registers();
        registersOfNoThread();
        numberThatIsLost();
        toldNumbers();
        toldOfNoFailure();
        toldAtItsEdges();
        thingNumbers();
        lastThing();
        thingLocks();
        itemNumbers();
        itemsAtTheirEdges();
        itemsOfObjects();
        fieldNumbers();
        fieldsAtTheirEdges();
        fieldsOfRows();
        rings();
        traceWraps();
        refusedCallsChangeNothing();
        Check.end();
    }

    private static void registers() {
        Witness x = new Witness();
        for (int s = 0; s <= 2; s++) {
            for (int k : new int[] {L, -1, 4, 7, 8, M}) {
                boolean eight = k >= 0 && k <= 7;
                Check.due("number " + k, x.number(s, k), eight ? 0 : LOST);
                Check.due("real " + k, x.real(s, k), LOST);
                Check.due("small " + k, x.small(s, k), LOST);
                Check.due("hold " + k, x.hold(s, k), eight ? NONE : BAD_BESIDE_NONE);
            }
            for (int k = 0; k <= 3; k++) {
                Check.due("number " + k, x.number(s, k), 0);
                Check.due("real " + k, x.real(s, k), 0);
                Check.due("small " + k, x.small(s, k), 0);
                Check.due("hold " + k, x.hold(s, k), NONE);
            }
        }
    }

    private static void registersOfNoThread() {
        Witness x = new Witness();
        for (int s : new int[] {L, -1, 3, M}) {
            for (int k : new int[] {-1, 0, 3, 7, 8}) {
                Check.due("number of thread " + s, x.number(s, k), LOST);
                Check.due("real of thread " + s, x.real(s, k), LOST);
                Check.due("small of thread " + s, x.small(s, k), LOST);
                Check.due("hold of thread " + s, x.hold(s, k), BAD_BESIDE_NONE);
            }
        }
    }

    /** A NUMBER may be what LOST is; so may the bits of -0.0. */
    private static void numberThatIsLost() {
        Witness x = new Witness();
        x.setNumber(7, Long.MIN_VALUE);
        x.setNumber(6, Long.MAX_VALUE);
        Check.due("the least long", x.number(0, 7), Long.MIN_VALUE);
        Check.due("the greatest long", x.number(0, 6), Long.MAX_VALUE);
        x.setReal(3, -0.0);
        Check.due("-0.0", x.real(0, 3), Long.MIN_VALUE);
        Check.due("-0.0 as a float", x.small(0, 3), L);
        x.setReal(0, Double.NEGATIVE_INFINITY);
        Check.due("endless", x.real(0, 0), 0xFFF0000000000000L);
        Check.due("an endless float", x.small(0, 0), 0xFF800000);
    }

    private static void toldNumbers() {
        Witness x = new Witness();
        for (int s : new int[] {L, -1, 3, M}) {
            for (int what : new int[] {-1, 0, 3, 6, 7, 8}) {
                Check.due("told of thread " + s, x.told(s, what), BAD_BESIDE_NONE);
            }
        }
        for (int s = 0; s <= 2; s++) {
            for (int what : new int[] {L, -2, -1, 8, 9, M}) {
                Check.due("told " + what, x.told(s, what), BAD_BESIDE_NONE);
            }
            Check.due("told 0", x.told(s, 0), 0);
            Check.due("told 7", x.told(s, 7), 0);
        }
    }

    /** "the latest FAILURE, SPENT (0)", "the PROGRAM, PLACE (NONE)", "the THING for which it WAITS (NONE)". */
    private static void toldOfNoFailure() {
        Witness x = new Witness();
        x.add(0, 0, 0, 1, 0);
        x.start(0, 0);
        int[] started = {0, 0, 0, NONE, NONE, 1, NONE, 1};
        int[] ended = {1, 0, 0, NONE, NONE, 0, NONE, 0};
        for (int what = 0; what <= 7; what++) {
            Check.due("started: told " + what, x.told(0, what), started[what]);
        }
        x.turn(0, 1);
        for (int what = 0; what <= 7; what++) {
            Check.due("ended: told " + what, x.told(0, what), ended[what]);
        }
    }

    /** PROGRAM 0 at PLACE 0, and PROGRAM 5 at PLACE 39; a start() leaves what was told. */
    private static void toldAtItsEdges() {
        Witness x = new Witness();
        x.add(0, 58, 0, 29, 0);
        for (int place = 0; place < 39; place++) {
            x.add(5, 63, 0, 0, 0);
        }
        x.add(5, 58, 0, -1, 0);
        x.add(1, 59, 39, 0, 0);
        x.start(2, 0);
        Check.due("ended by 29", x.turn(2, 1), -39);
        Check.due("failure", x.told(2, 2), 29);
        Check.due("program", x.told(2, 3), 0);
        Check.due("place", x.told(2, 4), 0);
        Check.due("start", x.start(2, 1), 1);
        Check.due("failures", x.told(2, 1), 1);
        Check.due("failure", x.told(2, 2), 29);
        Check.due("program", x.told(2, 3), 0);
        Check.due("place", x.told(2, 4), 0);
        Check.due("a place behind the last act", x.turn(2, 1), 0);
        Witness y = new Witness();
        y.add(5, 59, 39, 0, 0);
        for (int place = 1; place < 39; place++) {
            y.add(5, 63, 0, 0, 0);
        }
        y.add(5, 58, 0, -1, 0);
        y.start(0, 5);
        Check.due("ended by NULL", y.turn(0, 2), -11);
        Check.due("failure", y.told(0, 2), 1);
        Check.due("program", y.told(0, 3), 5);
        Check.due("place", y.told(0, 4), 39);
    }

    private static void thingNumbers() {
        Witness x = new Witness();
        Check.due("no thing yet", x.thing(0, 0), BAD_BESIDE_NONE);
        x.makeThings(2);
        for (int t : new int[] {L, -1, 2, M}) {
            for (int what = 0; what <= 3; what++) {
                Check.due("thing " + t, x.thing(t, what), BAD_BESIDE_NONE);
            }
        }
        int[] due = {16, 0, NONE, 0};
        for (int t = 0; t <= 1; t++) {
            for (int what : new int[] {L, -1, 4, M}) {
                Check.due("thing(" + t + ", " + what + ")", x.thing(t, what), BAD_BESIDE_NONE);
            }
            for (int what = 0; what <= 3; what++) {
                Check.due("thing(" + t + ", " + what + ")", x.thing(t, what), due[what]);
            }
        }
        x.clear();
        Check.due("none behind clear", x.thing(0, 0), BAD_BESIDE_NONE);
    }

    private static void lastThing() {
        Witness x = new Witness();
        x.makeThings(159);
        Check.due("thing 158", x.thing(158, 0), 16);
        Check.due("thing 159", x.thing(159, 0), BAD_BESIDE_NONE);
        Check.due("item of 159", x.item(159, 0), LOST);
        Check.due("field of 159", x.field(159, 0), LOST);
        Check.due("a row of 12", x.run(0, 0, 0, 12, 0, 14, 7, 5, 0), 0);
        Check.due("T 7", x.hold(0, 7), 159);
        Check.due("thing 159", x.thing(159, 0), 5);
        Check.due("thing 159", x.thing(159, 1), 12);
        Check.due("item 11 of 159", x.item(159, 11), 0);
        Check.due("item 12 of 159", x.item(159, 12), LOST);
        Check.due("thing 160", x.thing(160, 0), BAD_BESIDE_NONE);
        Check.due("item of 160", x.item(160, 0), LOST);
        Check.due("field of 160", x.field(160, 0), LOST);
    }

    private static void thingLocks() {
        for (int s = 0; s <= 2; s++) {
            Witness x = new Witness();
            x.add(0, 18, 0, 0, 0, 64, 0, 0, 0, 64, 0, 0, 0, 65, 0, 0, 0, 65, 0, 0, 0, 63, 0, 0, 0);
            x.start(s, 0);
            int[] times = {0, 1, 2, 1, 0};
            for (int k = 0; k < 5; k++) {
                x.turn(s, 1);
                Check.due("its thread", x.thing(0, 2), times[k] > 0 ? s : NONE);
                Check.due("how often", x.thing(0, 3), times[k]);
            }
        }
    }

    private static void itemNumbers() {
        Witness x = new Witness();
        Check.due("no row yet", x.item(0, 0), LOST);
        Check.due("rows of 0, 1 and 12", x.run(0, 14, 0, 4, 0, 0, 0, 1, 0, 14, 1, 4, 0, 0, 0, 12, 0, 14, 2, 4, 0), 0);
        int[] many = {0, 1, 12};
        for (int t = 0; t <= 2; t++) {
            Check.due("how many", x.thing(t, 1), many[t]);
            for (int i = 0; i < many[t]; i++) {
                Check.due("item", x.item(t, i), 0);
            }
            for (int i : new int[] {L, -1, many[t], 13, M}) {
                Check.due("item " + i + " of " + many[t], x.item(t, i), LOST);
            }
        }
        for (int t : new int[] {L, -1, 3, M}) {
            Check.due("item of thing " + t, x.item(t, 0), LOST);
        }
    }

    /** Items that are at the edge of their SORT: as a long, the bits, the THING's number, NONE. */
    private static void itemsAtTheirEdges() {
        long[][] due = {
            {1, 1, 1}, {-128, 127, -1}, {-32768, 32767, -1}, {65535, 32768, 65535}, {L, M, -1},
            {Long.MIN_VALUE, Long.MAX_VALUE, -1}};
        long[][] put = {
            {Long.MIN_VALUE, 256, -1}, {128, -129, 255}, {32768, -32769, 65535}, {-1, 32768, 65535},
            {1L << 31, ~(1L << 31), (1L << 32) - 1}, {Long.MIN_VALUE, Long.MAX_VALUE, -1}};
        for (int sort = 0; sort <= 5; sort++) {
            for (int k = 0; k < 3; k++) {
                Witness x = new Witness();
                x.setNumber(5, put[sort][k]);
                Check.due("put", x.run(0, 0, 0, 12, 0, 14, 0, sort, 0, 0, 0, 11, 0, 28 + sort, 5, 0, 0), 0);
                Check.due("item 11 of sort " + sort, x.item(0, 11), due[sort][k]);
                Check.due("item 10 of sort " + sort, x.item(0, 10), 0);
            }
        }
        Witness x = new Witness();
        x.setReal(0, Double.NEGATIVE_INFINITY);
        Check.due("put", x.run(0, 0, 0, 1, 0, 14, 0, 6, 0, 14, 1, 7, 0, 34, 0, 0, 1, 35, 0, 1, 1), 0);
        Check.due("a float's bits", x.item(0, 0), 0xFF800000);
        Check.due("a double's bits", x.item(1, 0), 0xFFF0000000000000L);
        Check.due("parts", x.run(0, 15, 0, 0, 0, 18, 1, 4, 0, 39, 1, 0, 2, 0, 0, 2, 0, 16, 2, 0, 2), 0);
        Check.due("a thing's number", x.item(2, 0), 3);
        Check.due("a row's number", x.item(4, 1), 6);
        Check.due("none", x.run(0, 39, 7, 0, 2, 40, 7, 2, 2), 0);
        Check.due("none", x.item(2, 0), NONE);
        Check.due("none", x.item(4, 0), NONE);
    }

    private static void itemsOfObjects() {
        for (int c = 0; c <= 4; c++) {
            Witness x = new Witness();
            x.run(0, 18, 0, c, 0);
            for (int i : new int[] {-1, 0, 1, 11}) {
                Check.due("item of an object", x.item(0, i), LOST);
            }
            Check.due("how many", x.thing(0, 1), 0);
        }
    }

    private static void fieldNumbers() {
        for (int c = 0; c <= 4; c++) {
            Witness x = new Witness();
            Check.due("no object yet", x.field(0, 0), LOST);
            x.run(0, 18, 0, c, 0);
            for (int b : new int[] {L, -1, 9, M}) {
                Check.due("field " + b, x.field(0, b), LOST);
            }
            for (int b = 0; b <= 8; b++) {
                boolean has = b < 7 || (b == 7 && c >= 1 && c <= 3) || (b == 8 && c == 3);
                Check.due("field " + b + " of class " + c, x.field(0, b), !has ? LOST : b == 3 || b == 4 ? NONE : 0);
            }
            for (int t : new int[] {L, -1, 1, M}) {
                Check.due("field of thing " + t, x.field(t, 0), LOST);
            }
        }
    }

    private static void fieldsAtTheirEdges() {
        Witness x = new Witness();
        x.run(0, 18, 0, 3, 0, 0, 0, 12, 0, 14, 1, 4, 0);
        x.setNumber(5, Long.MAX_VALUE);
        x.setReal(0, Double.NEGATIVE_INFINITY);
        Check.due("put", x.run(0, 52, 5, 0, 0, 52, 0, 1, 0, 52, 0, 2, 0, 52, 0, 3, 0, 52, 1, 4, 0, 52, 5, 6, 0), 0);
        long[] due = {Long.MAX_VALUE, 0xFFF0000000000000L, 0xFF800000, 0, 1, 0, -1, 0, 0};
        for (int b = 0; b <= 8; b++) {
            Check.due("field " + b, x.field(0, b), due[b]);
        }
        x.setNumber(5, (1L << 31) + (1L << 40));
        Check.due("put", x.run(0, 52, 5, 6, 0, 0, 4, M, 0, 52, 4, 7, 0, 0, 4, L, 0, 52, 4, 8, 0, 55, 3, 0, 0), 0);
        Check.due("TALLY", x.field(0, 5), 2);
        Check.due("the NODE's MARK", x.field(0, 6), L);
        Check.due("the LEAF's MARK", x.field(0, 7), M);
        Check.due("the TWIG's MARK", x.field(0, 8), L);
        Check.due("none again", x.run(0, 52, 7, 3, 0, 52, 7, 4, 0), 0);
        Check.due("NEXT", x.field(0, 3), NONE);
        Check.due("LINE", x.field(0, 4), NONE);
    }

    private static void fieldsOfRows() {
        for (int sort = 0; sort <= 14; sort++) {
            Witness x = new Witness();
            x.run(0, 0, 0, 1, 0, sort < 8 ? 14 : sort < 13 ? 15 : sort + 3, 0, sort < 8 ? sort : sort < 13 ? sort - 8 : 0, 0);
            Check.due("sort", x.thing(0, 0), sort);
            for (int b = -1; b <= 9; b++) {
                Check.due("field " + b + " of a row of sort " + sort, x.field(0, b), LOST);
            }
        }
    }

    private static void rings() {
        Witness x = new Witness();
        for (int s : new int[] {L, -1, 3, M}) {
            Check.due("ring(" + s + ")", x.ring(s), BAD);
        }
        x.add(0, 18, 0, 0, 0, 64, 0, 0, 0, 64, 0, 0, 0, 63, 0, 0, 0);
        for (int s = 0; s <= 2; s++) {
            Check.due("ring(" + s + ")", x.ring(s), 0);
            x.start(s, 0);
            x.turn(s, 3);
            Check.due("a thread with locks", x.ring(s), 0);
            Check.due("does not wait", x.told(s, 6), NONE);
        }
    }

    /** "THE TRACE, an int that wraps": by a LEAF's MEASURE, two bodies each, below 0 and above it again. */
    private static void traceWraps() {
        Witness x = new Witness();
        x.add(0, 54, 0, 0, 0, 59, 0, 0, 0);
        x.run(0, 18, 0, 1, 0);
        x.start(0, 0);
        int trace = 0;
        boolean below = false;
        boolean above = false;
        for (int k = 0; k < 40; k++) {
            trace = 31 * (31 * trace + 6) + 5;
            below |= trace < 0;
            above |= below && trace > 0;
            x.turn(0, k == 0 ? 1 : 2);
            Check.due("trace " + k, x.trace(), trace);
        }
        Check.due("it has wrapped both ways", below && above ? 1 : 0, 1);
    }

    private static void refusedCallsChangeNothing() {
        Twins.unchanged("refused questions", x -> {
            x.run(0, 0, 0, 3, 0, 14, 0, 4, 0, 18, 1, 3, 0, 54, 0, 1, 0, 58, 0, 21, 0);
            x.start(1, 5);
            x.turn(1, 2);
        }, x -> {
            for (int bad : new int[] {L, -1, 8, M}) {
                x.number(0, bad);
                x.real(0, bad);
                x.small(0, bad);
                x.hold(0, bad);
                x.told(0, bad);
                x.thing(0, bad);
                x.thing(bad, 0);
                x.item(0, bad);
                x.item(bad, 0);
                x.field(1, bad);
                x.field(bad, 0);
                x.ring(bad);
                x.count(bad);
                x.told(bad, 0);
                x.hold(bad, 0);
                x.number(bad, 0);
            }
        }, Twins::nothing);
    }
}
