/** ACTS 0 to 11 at the edges of longs, ints, doubles and floats: ZERO, ENDLESS, wrap-around, the signs of 0.0s. */
public final class NumberBoundsTest {
    private static final int ZERO = 6, ENDLESS = 8;
    private static final double E = Double.POSITIVE_INFINITY;
    private static final long LEAST = Long.MIN_VALUE, MOST = Long.MAX_VALUE;

    public static void main(String[] args) {
        constants();
        powers();
        longsWrap();
        intsWrap();
        shifts();
        compared();
        zeros();
        noNumbers();
        stillNumbers();
        greaterAndLesser();
        signs();
        functions();
        comparedReals();
        castsToWholes();
        castsToReals();
        narrowed();
        bitsAtTheEnds();
        sumsAtTheEnds();
        restsAtTheEnds();
        wholeAtTheEnds();
        Check.end();
    }

    /** "0 N a becomes b": every int. */
    private static void constants() {
        for (int b : new int[] {Integer.MIN_VALUE, -1, 0, 1, Integer.MAX_VALUE}) {
            Witness x = Twins.does("0", w -> w.setNumber(7, MOST), 0, 7, b, 0);
            Check.due("N 7", x.number(0, 7), b);
        }
    }

    /** "b times 2 to the c (-60 .. 60; the nearest float)". */
    private static void powers() {
        int[] all = {Integer.MIN_VALUE, Integer.MIN_VALUE + 1, -16777217, -1, 0, 1, 16777217, 16777219, Integer.MAX_VALUE};
        for (int c : new int[] {-60, -59, -1, 0, 1, 59, 60}) {
            for (int b : all) {
                Witness x = Twins.does("1", Twins::nothing, 1, 3, b, c);
                Check.dueBits(b + " times 2 to the " + c, x.real(0, 3), b * Math.pow(2, c));
                Witness y = Twins.does("2", Twins::nothing, 2, 3, b, c);
                Check.dueSmallBits(b + " times 2 to the " + c, y.small(0, 3), (float) (b * Math.pow(2, c)));
            }
        }
    }

    private static void dueJoined(int op, int b, long x, long y, long want) {
        Witness got = Twins.does(op + " op " + b, w -> {
            w.setNumber(6, x);
            w.setNumber(7, y);
        }, op, 6, b, 7);
        Check.due(x + " op " + b + " " + y + " by " + op, got.number(0, 6), want);
        Check.due("the other stays", got.number(0, 7), y);
    }

    private static void longsWrap() {
        dueJoined(3, 0, MOST, 1, LEAST);
        dueJoined(3, 0, MOST, 0, MOST);
        dueJoined(3, 0, LEAST, -1, MOST);
        dueJoined(3, 1, LEAST, 1, MOST);
        dueJoined(3, 1, 0, LEAST, LEAST);
        dueJoined(3, 2, LEAST, -1, LEAST);
        dueJoined(3, 2, MOST, 2, -2);
        dueJoined(3, 2, 1L << 32, 1L << 31, LEAST);
        dueJoined(3, 3, LEAST, -1, LEAST);
        dueJoined(3, 3, LEAST, 1, LEAST);
        dueJoined(3, 3, -1, 2, 0);
        dueJoined(3, 4, LEAST, -1, 0);
        dueJoined(3, 4, -1, 2, -1);
        dueJoined(3, 8, -1, LEAST, LEAST);
        dueJoined(3, 9, LEAST, MOST, -1);
        dueJoined(3, 10, LEAST, -1, MOST);
    }

    private static void intsWrap() {
        int least = Integer.MIN_VALUE;
        int most = Integer.MAX_VALUE;
        dueJoined(4, 0, most, 1, least);
        dueJoined(4, 0, most, 0, most);
        dueJoined(4, 0, MOST, 0, -1);
        dueJoined(4, 0, LEAST, 0, 0);
        dueJoined(4, 1, least, 1, most);
        dueJoined(4, 1, 0, least, least);
        dueJoined(4, 2, least, -1, least);
        dueJoined(4, 2, 1 << 16, 1 << 15, least);
        dueJoined(4, 3, least, -1, least);
        dueJoined(4, 3, 1L << 31, 1, least);
        dueJoined(4, 4, least, -1, 0);
        dueJoined(4, 4, (1L << 32) + 7, (1L << 33) + 4, 3);
        dueJoined(4, 3, -7, 2, -3);
        dueJoined(4, 8, LEAST - 1, (1L << 32) - 1, -1);
        dueJoined(4, 8, -1, 1L << 31, least);
        dueJoined(4, 8, -1, 1L << 32, 0);
        dueJoined(4, 9, 1L << 31, 1, least + 1);
        dueJoined(4, 10, -1, 1L << 31, most);
    }

    private static void shifts() {
        for (int by : new int[] {0, 1, 31, 32, 33, 62, 63, 64, 65, -1, -63, -64}) {
            for (long value : new long[] {1, -1, LEAST, MOST, 1L << 31}) {
                dueJoined(3, 5, value, by, value << by);
                dueJoined(3, 6, value, by, value >> by);
                dueJoined(3, 7, value, by, value >>> by);
                dueJoined(4, 5, value, by, (int) value << by);
                dueJoined(4, 6, value, by, (int) value >> by);
                dueJoined(4, 7, value, by, (int) value >>> by);
            }
        }
        dueJoined(3, 5, 1, (1L << 32) + 1, 2);
        dueJoined(4, 5, 1, (1L << 32) + 1, 2);
    }

    private static void compared() {
        dueJoined(3, 11, LEAST, LEAST + 1, -1);
        dueJoined(3, 11, LEAST, LEAST, 0);
        dueJoined(3, 11, MOST, LEAST, 1);
        dueJoined(3, 11, 0, -1, 1);
        dueJoined(3, 11, 1L << 32, 0, 1);
        dueJoined(4, 11, 1L << 32, 0, 0);
        dueJoined(4, 11, 1L << 31, 0, -1);
        dueJoined(4, 11, Integer.MIN_VALUE, Integer.MAX_VALUE, -1);
        dueJoined(4, 11, MOST, LEAST, -1);
    }

    /** "(by 0: ZERO)": 0 as a long, and as an int of the lowest 32 bits; 1 and -1 divide. */
    private static void zeros() {
        for (int b = 3; b <= 4; b++) {
            for (long x : new long[] {0, 1, LEAST, MOST}) {
                for (int op = 3; op <= 4; op++) {
                    Twins.fails(x + " by 0", ZERO, w -> w.setNumber(6, x), op, 6, b, 7);
                }
                Twins.fails("0 by its lowest 32 bits", ZERO, w -> {
                    w.setNumber(6, x);
                    w.setNumber(7, 1L << 32);
                }, 4, 6, b, 7);
                Twins.fails("by 0, itself", ZERO, w -> w.setNumber(6, 0), 3, 6, b, 6);
                dueJoined(3, b, x, 1L << 32, b == 3 ? x / (1L << 32) : x % (1L << 32));
                dueJoined(3, b, x, 1, b == 3 ? x : 0);
                dueJoined(3, b, x, -1, b == 3 ? -x : 0);
                dueJoined(4, b, x, 1, b == 3 ? (int) x : 0);
                dueJoined(4, b, x, -1, b == 3 ? -(int) x : 0);
            }
        }
    }

    private static void dueNoNumber(int b, double x, double y) {
        for (int op = 5; op <= 6; op++) {
            Twins.fails(x + " op " + b + " " + y + " by " + op, ENDLESS, w -> {
                w.setReal(2, x);
                w.setReal(3, y);
            }, op, 2, b, 3);
        }
    }

    /** "ENDLESS: endless and endless of the other sign (0; of one sign 1), 0.0 and endless (2), .." */
    private static void noNumbers() {
        double[] zeros = {0.0, -0.0};
        double[] endless = {E, -E};
        for (double e : endless) {
            dueNoNumber(0, e, -e);
            dueNoNumber(1, e, e);
            for (double z : zeros) {
                dueNoNumber(2, z, e);
                dueNoNumber(2, e, z);
                dueNoNumber(4, e, z);
            }
            for (double other : endless) {
                dueNoNumber(3, e, other);
                dueNoNumber(4, e, other);
            }
            dueNoNumber(4, e, 2.5);
        }
        for (double z : zeros) {
            for (double other : zeros) {
                dueNoNumber(3, z, other);
                dueNoNumber(4, z, other);
            }
            dueNoNumber(4, 2.5, z);
            dueNoNumber(4, -2.5, z);
        }
    }

    private static void dueReal(int b, double x, double y, double want) {
        for (int op = 5; op <= 6; op++) {
            Witness got = Twins.does(x + " op " + b + " " + y + " by " + op, w -> {
                w.setReal(2, x);
                w.setReal(3, y);
            }, op, 2, b, 3);
            if (op == 5) {
                Check.dueBits(x + " op " + b + " " + y, got.real(0, 2), want);
                Check.dueBits("the other stays", got.real(0, 3), y);
            } else {
                Check.dueSmallBits(x + " op " + b + " " + y + " as floats", got.small(0, 2), (float) want);
                Check.dueSmallBits("the other stays", got.small(0, 3), (float) y);
            }
        }
    }

    /** Beside each ENDLESS what is still a number. */
    private static void stillNumbers() {
        for (double e : new double[] {E, -E}) {
            dueReal(0, e, e, e);
            dueReal(0, e, 2.5, e);
            dueReal(0, 2.5, e, e);
            dueReal(1, e, -e, e);
            dueReal(1, e, 2.5, e);
            dueReal(1, 2.5, e, -e);
            dueReal(2, e, -0.25, -e);
            dueReal(2, 0.25, e, e);
            dueReal(2, e, e, E);
            dueReal(3, e, -0.0, -e);
            dueReal(3, -0.0, e, -0.0 / e);
            dueReal(3, 2.5, e, 2.5 / e);
            dueReal(3, e, 2.5, e);
            dueReal(4, -0.0, e, -0.0);
            dueReal(4, 2.5, e, 2.5);
            dueReal(4, -2.5, e, -2.5);
        }
        dueReal(0, -0.0, -0.0, -0.0);
        dueReal(0, -0.0, 0.0, 0.0);
        dueReal(1, 0.0, 0.0, 0.0);
        dueReal(1, -0.0, 0.0, -0.0);
        dueReal(2, -0.0, 2.5, -0.0);
        dueReal(3, 2.5, 0.0, E);
        dueReal(3, 2.5, -0.0, -E);
        dueReal(3, 0.0, -2.5, -0.0);
        dueReal(4, 0.0, -2.5, 0.0);
        dueReal(4, -5.0, 2.5, -0.0);
        dueReal(4, 5.0, -2.5, 0.0);
        dueReal(4, 2.5, 2.75, 2.5);
    }

    /** "5 the greater 6 the lesser (-0.0 is less than 0.0)". */
    private static void greaterAndLesser() {
        double[] inOrder = {-E, -2.5, -0.25, -0.0, 0.0, 0.25, 2.5, E};
        for (int i = 0; i < inOrder.length; i++) {
            for (int j = 0; j < inOrder.length; j++) {
                dueReal(5, inOrder[i], inOrder[j], inOrder[Math.max(i, j)]);
                dueReal(6, inOrder[i], inOrder[j], inOrder[Math.min(i, j)]);
            }
        }
    }

    private static void signs() {
        double[] sizes = {0.0, 0.25, 2.5, E};
        for (double size : sizes) {
            for (double other : sizes) {
                dueReal(7, size, other, size);
                dueReal(7, -size, other, size);
                dueReal(7, size, -other, -size);
                dueReal(7, -size, -other, -size);
            }
        }
    }

    private static void dueFunction(int fn, double x, double want) {
        Witness got = Twins.does("fn " + fn + " of " + x, w -> w.setReal(3, x), 7, 0, fn, 3);
        Check.dueBits("fn " + fn + " of " + x, got.real(0, 0), want);
        Witness small = Twins.does("fn " + fn + " of a float " + x, w -> w.setReal(3, x), 8, 0, fn, 3);
        Check.dueSmallBits("fn " + fn + " of a float " + x, small.small(0, 0), (float) want);
    }

    /** Of 0.0s, halves, whole ones and endless ones, with their signs. */
    private static void functions() {
        double[] all = {0.0, 0.25, 0.5, 0.75, 1.0, 1.25, 1.5, 1.75, 2.0, 2.5, 3.5, 1000000.5, 1000001.5, E};
        for (double size : all) {
            for (double x : new double[] {size, -size}) {
                dueFunction(0, x, size);
                dueFunction(1, x, Math.floor(x));
                dueFunction(2, x, Math.ceil(x));
                dueFunction(3, x, Math.rint(x));
                dueFunction(4, x, Math.signum(x));
                dueFunction(5, x, -x);
            }
        }
    }

    /** "-1, 0, 1: X b below, as much as, above X c (-0.0 as much as 0.0)". */
    private static void comparedReals() {
        double[] inOrder = {-E, -2.5, -0.0, 0.0, 0.25, E};
        for (double x : inOrder) {
            for (double y : inOrder) {
                for (int op = 9; op <= 10; op++) {
                    Witness got = Twins.does("compared", w -> {
                        w.setReal(2, x);
                        w.setReal(3, y);
                    }, op, 7, 2, 3);
                    Check.due(x + " and " + y, got.number(0, 7), x < y ? -1 : x > y ? 1 : 0);
                }
            }
        }
    }

    /** X 3 and F 3 become a whole number below 2 to the 31 times a power of 2. */
    private static void setScaled(Witness x, int number, int power) {
        x.run(0, 1, 3, number, Math.min(power, 60), 1, 2, 1, Math.max(0, power - 60), 5, 3, 2, 2, 11, 3, 7, 3);
    }

    /** As Java casts: what is too great becomes the greatest long (int), what is too low the least. */
    private static void castsToWholes() {
        int[][] edges = {
            {1, 31}, {-1, 31}, {1, 30}, {-1, 32}, {1, 32}, {1, 63}, {-1, 63}, {1, 62}, {-1, 64}, {1, 64}, {1, 120},
            {-1, 120}, {Integer.MAX_VALUE, 0}, {Integer.MIN_VALUE, 0}, {Integer.MAX_VALUE, -1}, {-1, -1}, {1, -1},
            {3, -1}, {-3, -1}, {1, -60}, {Integer.MAX_VALUE, 32}, {Integer.MAX_VALUE, 33}, {16777215, 7},
            {16777215, 8}, {-16777215, 8}};
        for (int[] edge : edges) {
            Witness x = new Witness();
            setScaled(x, edge[0], edge[1]);
            double due = edge[0] * Math.pow(2, edge[1]);
            Check.dueBits("made", x.real(0, 3), due);
            Check.due("casts", x.run(0, 11, 1, 1, 3, 11, 2, 2, 3, 11, 4, 4, 3, 11, 5, 5, 3), 0);
            Check.due(due + " as a long", x.number(0, 1), (long) due);
            Check.due(due + " as an int", x.number(0, 2), (int) due);
            Check.due(due + " a float as a long", x.number(0, 4), (long) (float) due);
            Check.due(due + " a float as an int", x.number(0, 5), (int) (float) due);
        }
        for (double e : new double[] {E, -E}) {
            Witness x = new Witness();
            x.setReal(3, e);
            Check.due("casts", x.run(0, 11, 1, 1, 3, 11, 2, 2, 3, 11, 4, 4, 3, 11, 5, 5, 3), 0);
            Check.due("endless as a long", x.number(0, 1), e > 0 ? MOST : LEAST);
            Check.due("endless as an int", x.number(0, 2), e > 0 ? Integer.MAX_VALUE : Integer.MIN_VALUE);
            Check.due("an endless float as a long", x.number(0, 4), e > 0 ? MOST : LEAST);
            Check.due("an endless float as an int", x.number(0, 5), e > 0 ? Integer.MAX_VALUE : Integer.MIN_VALUE);
        }
    }

    /** The nearest double, the nearest float; above all floats: endless; below all of them: 0.0 with the sign. */
    private static void castsToReals() {
        long[] edges = {
            LEAST, LEAST + 1, -1, 0, 1, MOST, MOST - 1, (1L << 53) - 1, 1L << 53, (1L << 53) + 1, (1L << 53) + 3,
            (1L << 24) - 1, 1L << 24, (1L << 24) + 1, (1L << 24) + 3, -(1L << 24) - 1, -(1L << 53) - 1,
            (1L << 54) + (1L << 30) + 1};
        for (long edge : edges) {
            Witness x = new Witness();
            x.setNumber(7, edge);
            Check.due("casts", x.run(0, 11, 3, 0, 7, 11, 3, 3, 7), 0);
            Check.dueBits(edge + " as a double", x.real(0, 3), (double) edge);
            Check.dueSmallBits(edge + " as a float", x.small(0, 3), (float) edge);
        }
        for (int sign : new int[] {1, -1}) {
            Witness x = new Witness();
            setScaled(x, sign, 120);
            Check.due("2 to the 127 and 128", x.run(0, 1, 0, 128, 0, 5, 3, 2, 0, 11, 0, 7, 3, 11, 0, 6, 0, 1, 1, 2, 0,
                    5, 3, 2, 1, 11, 1, 7, 3, 11, 1, 6, 1), 0);
            Check.dueBits("2 to the 127", x.real(0, 0), sign * 0x1p127);
            Check.dueBits("2 to the 128, as a float", x.real(0, 1), sign * E);
            Check.due("2 to the -149 and -150", x.run(0, 1, 3, sign, -60, 1, 2, 1, -60, 5, 3, 2, 2, 1, 2, 1, -29,
                    5, 3, 2, 2, 11, 0, 7, 3, 1, 2, 1, -1, 5, 3, 2, 2, 11, 1, 7, 3), 0);
            Check.due("2 to the -149", x.small(0, 0), sign > 0 ? 1 : 0x80000001);
            Check.due("2 to the -150", x.small(0, 1), sign > 0 ? 0 : 0x80000000);
        }
    }

    private static void narrowed() {
        long[] edges = {
            127, 128, -128, -129, 255, 256, 32767, 32768, -32768, -32769, 65535, 65536, -1, Integer.MAX_VALUE,
            1L << 31, Integer.MIN_VALUE, Integer.MIN_VALUE - 1L, (1L << 32) - 1, 1L << 32, LEAST, MOST};
        for (long edge : edges) {
            Witness x = new Witness();
            x.setNumber(7, edge);
            Check.due("casts", x.run(0, 11, 3, 8, 7, 11, 4, 9, 7, 11, 5, 10, 7, 11, 6, 11, 7), 0);
            Check.due(edge + " as a byte", x.number(0, 3), (byte) edge);
            Check.due(edge + " as a short", x.number(0, 4), (short) edge);
            Check.due(edge + " as a char", x.number(0, 5), (char) edge);
            Check.due(edge + " as an int", x.number(0, 6), (int) edge);
        }
    }

    /** The greatest and the least doubles and floats, and those beside 1: real() and small() show their very bits. */
    private static void bitsAtTheEnds() {
        double[] ends = {
            Double.MAX_VALUE, Math.nextDown(Double.MAX_VALUE), 0x1p1023, Double.MIN_VALUE, 2 * Double.MIN_VALUE,
            Double.MIN_NORMAL, Math.nextDown(Double.MIN_NORMAL), Math.nextUp(Double.MIN_NORMAL), 2 * Double.MIN_NORMAL,
            4 * Double.MIN_NORMAL, 2 * Float.MIN_NORMAL, 4 * Float.MIN_NORMAL, 1.0, Math.nextUp(1.0),
            Math.nextDown(1.0), Float.MAX_VALUE, Math.nextDown(Float.MAX_VALUE), Float.MIN_VALUE, Float.MIN_NORMAL,
            Math.nextDown(Float.MIN_NORMAL), Math.nextUp(Float.MIN_NORMAL), Math.nextUp(1.0f), Math.nextDown(1.0f),
            Math.nextUp((double) Float.MAX_VALUE), 0x1.ffffffp127, Math.nextDown(0x1.ffffffp127), 0x1p-150,
            Math.nextUp(0x1p-150)};
        for (double end : ends) {
            for (double value : new double[] {end, -end}) {
                Witness x = new Witness();
                x.setAnyReal(3, value);
                Check.due("the bits of " + value, x.real(0, 3), Double.doubleToRawLongBits(value));
                Check.due("the bits of a float " + value, x.small(0, 3), Float.floatToRawIntBits((float) value));
            }
        }
    }

    private static void dueOfAny(int b, double x, double y, double want) {
        Witness got = Twins.does(x + " op " + b + " " + y, w -> {
            w.setAnyReal(0, x);
            w.setAnyReal(1, y);
        }, 5, 0, b, 1);
        Check.dueBits(x + " op " + b + " " + y, got.real(0, 0), want);
    }

    /** The greatest double is not endless, and what is above it is; below the least there is 0.0. */
    private static void sumsAtTheEnds() {
        double most = Double.MAX_VALUE;
        double least = Double.MIN_VALUE;
        dueOfAny(0, most, most, E);
        dueOfAny(0, most, -most, 0.0);
        dueOfAny(1, most, most, 0.0);
        dueOfAny(1, -most, most, -E);
        dueOfAny(2, most, 2.0, E);
        dueOfAny(2, 0.0, most, 0.0);
        dueOfAny(2, least, 0.5, 0.0);
        dueOfAny(2, -least, 0.5, -0.0);
        dueOfAny(3, most, most, 1.0);
        dueOfAny(3, most, 0.5, E);
        dueOfAny(3, least, least, 1.0);
        dueOfAny(3, least, -2.0, -0.0);
        dueOfAny(5, most, least, most);
        dueOfAny(6, -least, -most, -most);
        dueOfAny(7, most, -least, -most);
    }

    /** "4 %": of the greatest by the least, of the least ones by one another, and of what is just below the second. */
    private static void restsAtTheEnds() {
        double[] ends = {
            Double.MAX_VALUE, Math.nextDown(Double.MAX_VALUE), Double.MIN_NORMAL, Math.nextDown(Double.MIN_NORMAL),
            Math.nextUp(Double.MIN_NORMAL), Double.MIN_VALUE, 3 * Double.MIN_VALUE, 1.0, Math.nextDown(1.0), 3.0, 0x1p53};
        for (double x : ends) {
            for (double y : ends) {
                dueOfAny(4, x, -y, x % y);
                dueOfAny(4, -x, y, -x % y);
            }
        }
    }

    /** From 2 to the 52 on all doubles are whole; just below it there are halves; the least ones are next to 0.0. */
    private static void wholeAtTheEnds() {
        double[] ends = {
            0x1p52, Math.nextDown(0x1p52), Math.nextUp(0x1p52), 0x1p53, Double.MAX_VALUE, Double.MIN_VALUE,
            Math.nextDown(0.5), Math.nextUp(0.5), Math.nextDown(1.0), 0x1p23, Math.nextDown(0x1p23f),
            Math.nextDown(0.5f), 0x1p63, 0x1p31};
        for (double end : ends) {
            for (double value : new double[] {end, -end}) {
                Witness x = new Witness();
                x.setAnyReal(3, value);
                float small = (float) value;
                for (int fn = 0; fn <= 5; fn++) {
                    Check.due("fn", x.run(0, 7, 0, fn, 3, 8, 0, fn, 3), 0);
                    Check.dueBits("fn " + fn + " of " + value, x.real(0, 0), Oracle.doubleFn(fn, value));
                    Check.dueSmallBits("fn " + fn + " of a float " + small, x.small(0, 0), Oracle.floatFn(fn, small));
                }
            }
        }
    }
}
