/** Promises 7 to 9: number, real, small; with the ACTS 0 to 11, by answers written out. */
public final class NumberActsTest {
    private static final int ENDED = 0, ZERO = -16, ENDLESS = -18;

    public static void main(String[] args) {
        refusals();
        constants();
        longs();
        ints();
        divisions();
        doubles();
        floats();
        noNumbers();
        functions();
        comparisons();
        casts();
        Check.end();
    }

    private static void refusals() {
        MachineWitness x = new MachineWitness();
        int[][] bad = {{-1, 0}, {3, 0}, {0, -1}, {Integer.MIN_VALUE, 0}, {0, Integer.MAX_VALUE}};
        for (int[] b : bad) {
            Check.due("number LOST", x.number(b[0], b[1]), Long.MIN_VALUE);
            Check.due("real LOST", x.real(b[0], b[1]), Long.MIN_VALUE);
            Check.due("small LOST", x.small(b[0], b[1]), Long.MIN_VALUE);
            Check.due("hold BAD", x.hold(b[0], b[1]), -2);
        }
        Check.due("number LOST", x.number(2, 8), Long.MIN_VALUE);
        Check.due("number", x.number(2, 7), 0);
        Check.due("real LOST", x.real(2, 4), Long.MIN_VALUE);
        Check.due("real", x.real(2, 3), 0);
        Check.due("small LOST", x.small(2, 4), Long.MIN_VALUE);
        Check.due("small", x.small(2, 3), 0);
        Check.due("hold BAD", x.hold(2, 8), -2);
        Check.due("hold NONE", x.hold(2, 7), -1);
    }

    private static void constants() {
        MachineWitness x = new MachineWitness();
        Check.due("constants", Script.run(x, 2, 0, 7, -2147483648, 0, 1, 3, 3, -1, 1, 2, -1, 60, 1, 1, 5, -60,
                2, 3, -3, 1, 2, 2, 16777217, 0, 2, 1, 2147483647, 60, 2, 0, 0, 5), ENDED);
        Check.due("N 7", x.number(2, 7), -2147483648L);
        Check.due("X 3", x.real(2, 3), 0x3FF8000000000000L);
        Check.due("X 2", x.real(2, 2), 0xC3B0000000000000L);
        Check.due("X 1", x.real(2, 1), 0x3C54000000000000L);
        Check.due("F 3", x.small(2, 3), 0xC0C00000);
        Check.due("F 2: the nearest", x.small(2, 2), 0x4B800000);
        Check.due("F 1: the nearest", x.small(2, 1), 0x6D000000);
        Check.due("F 0", x.small(2, 0), 0);
    }

    /** N 0 becomes hi and lo, 32 bits each. */
    private static int[] wide(int k, long value) {
        int lo = (int) value;
        return new int[] {0, k, (int) (value >> 32), 0, 0, 7, 16, 0, 3, k, 5, 7, 0, 6, lo >>> 16, 0, 3, k, 9, 6,
            3, k, 5, 7, 0, 6, lo & 0xFFFF, 0, 3, k, 9, 6};
    }

    private static void dueJoined(int op, int b, long x, long y, long want) {
        MachineWitness witness = new MachineWitness();
        Script.run(witness, 0, wide(0, x));
        Script.run(witness, 0, wide(1, y));
        Check.due("made", witness.number(0, 0), x);
        Check.due("made", witness.number(0, 1), y);
        Check.due("joined", Script.run(witness, 0, op, 0, b, 1), ENDED);
        Check.due(op + ": " + x + " op " + b + " " + y, witness.number(0, 0), want);
    }

    private static void longs() {
        long most = Long.MAX_VALUE;
        long least = Long.MIN_VALUE;
        dueJoined(3, 0, most, 1, least);
        dueJoined(3, 1, least, 1, most);
        dueJoined(3, 2, 3037000500L, 3037000500L, -9223372036709301616L);
        dueJoined(3, 3, -7, 2, -3);
        dueJoined(3, 3, least, -1, least);
        dueJoined(3, 4, -7, 2, -1);
        dueJoined(3, 4, least, -1, 0);
        dueJoined(3, 5, 1, 65, 2);
        dueJoined(3, 5, 1, -1, least);
        dueJoined(3, 6, least, 63, -1);
        dueJoined(3, 7, least, 63, 1);
        dueJoined(3, 7, -1, 64, -1);
        dueJoined(3, 8, 0x1_0000_0003L, 0x1_0000_0005L, 0x1_0000_0001L);
        dueJoined(3, 9, 0x1_0000_0003L, 5, 0x1_0000_0007L);
        dueJoined(3, 10, 0x1_0000_0003L, 5, 0x1_0000_0006L);
        dueJoined(3, 11, least, most, -1);
        dueJoined(3, 11, 5, 5, 0);
        dueJoined(3, 11, 1L << 32, 1, 1);
    }

    private static void ints() {
        dueJoined(4, 0, 2147483647, 1, -2147483648);
        dueJoined(4, 0, 0x7_0000_0001L, 0x5_0000_0002L, 3);
        dueJoined(4, 1, -2147483648, 1, 2147483647);
        dueJoined(4, 2, 65536, 65536, 0);
        dueJoined(4, 3, -2147483648, -1, -2147483648);
        dueJoined(4, 4, -7, 3, -1);
        dueJoined(4, 5, 1, 33, 2);
        dueJoined(4, 6, 0xFFFF_FFFFL, 1, -1);
        dueJoined(4, 7, -1, 31, 1);
        dueJoined(4, 7, -1, 32, -1);
        dueJoined(4, 8, 0x1_0000_0003L, 0x1_0000_0005L, 1);
        dueJoined(4, 9, 0x1_0000_0003L, 4, 7);
        dueJoined(4, 10, 0x8000_0000L, 1, -2147483647);
        dueJoined(4, 11, 0x1_0000_0000L, 1, -1);
        dueJoined(4, 11, 0x1_0000_0001L, 1, 0);
        dueJoined(4, 11, 1, 0xFFFF_FFFFL, 1);
    }

    private static void divisions() {
        for (int op = 3; op <= 4; op++) {
            for (int b = 3; b <= 4; b++) {
                MachineWitness x = new MachineWitness();
                Check.due("ZERO", Script.run(x, 0, 0, 0, 9, 0, op, 0, b, 1), ZERO);
                Check.due("N 0 stays", x.number(0, 0), 9);
                Check.due("told 2", x.told(0, 2), 6);
            }
        }
        MachineWitness x = new MachineWitness();
        Script.run(x, 0, wide(1, 1L << 32));
        Check.due("ZERO of the lowest 32 bits", Script.run(x, 0, 4, 0, 3, 1), ZERO);
        Check.due("but not as longs", Script.run(x, 0, 3, 0, 3, 1), ENDED);
    }

    private static void dueReal(int b, double x, double y, double want) {
        MachineWitness witness = new MachineWitness();
        make(witness, 0, x);
        make(witness, 1, y);
        Check.due("joined", Script.run(witness, 0, 5, 0, b, 1), ENDED);
        Check.dueBits(x + " op " + b + " " + y, witness.real(0, 0), want);
        Script.run(witness, 0, 11, 0, 7, 0, 11, 1, 7, 1);
    }

    /** X k becomes a small number of quarters, -0.0 or endless. */
    private static void make(MachineWitness x, int k, double value) {
        if (Double.isInfinite(value)) {
            Script.run(x, 0, 1, k, value > 0 ? 1 : -1, 0, 1, 3, 0, 0, 5, k, 3, 3);
        } else if (value == 0 && 1 / value < 0) {
            Script.run(x, 0, 1, k, 0, 0, 7, k, 5, k);
        } else {
            Script.run(x, 0, 1, k, (int) (value * 4), -2);
        }
        Check.dueBits("made", x.real(0, k), value);
    }

    private static void doubles() {
        double endless = Double.POSITIVE_INFINITY;
        dueReal(0, 1.5, 2.25, 3.75);
        dueReal(1, 1.5, 2.25, -0.75);
        dueReal(2, 1.5, -0.0, -0.0);
        dueReal(3, 1.5, -0.0, -endless);
        dueReal(3, 1, 3, 0.3333333333333333);
        dueReal(4, -5.5, 2, -1.5);
        dueReal(4, -6, 2, -0.0);
        dueReal(4, 5.5, -endless, 5.5);
        dueReal(4, -0.0, 3, -0.0);
        dueReal(5, -0.0, 0.0, 0.0);
        dueReal(5, 0.0, -0.0, 0.0);
        dueReal(5, -0.0, -0.0, -0.0);
        dueReal(5, 2, endless, endless);
        dueReal(6, -0.0, 0.0, -0.0);
        dueReal(6, 0.0, -0.0, -0.0);
        dueReal(6, 2, -3, -3);
        dueReal(7, 2.5, -0.0, -2.5);
        dueReal(7, -0.0, 3, 0.0);
        dueReal(7, -endless, 3, endless);
        dueReal(0, endless, endless, endless);
        dueReal(1, endless, -endless, endless);
    }

    private static void floats() {
        MachineWitness x = new MachineWitness();
        Check.due("16777216 and 1 as floats", Script.run(x, 0, 2, 0, 16777216, 0, 2, 1, 1, 0, 6, 0, 0, 1), ENDED);
        Check.dueSmallBits("16777216 and 1 as floats", x.small(0, 0), 16777216f);
        Check.due("1 by 3", Script.run(x, 0, 2, 0, 1, 0, 2, 1, 3, 0, 6, 0, 3, 1), ENDED);
        Check.dueSmallBits("1 by 3", x.small(0, 0), 0.33333334f);
        Check.due("5.5 % -2", Script.run(x, 0, 2, 0, 11, -1, 2, 1, -2, 0, 6, 0, 4, 1), ENDED);
        Check.dueSmallBits("5.5 % -2", x.small(0, 0), 1.5f);
        Check.due("signs", Script.run(x, 0, 6, 0, 7, 1, 12, 0, 0, 0), ENDED);
        Check.dueSmallBits("1.5 with a sign", x.small(0, 0), -1.5f);
        Check.due("above all floats", Script.run(x, 0, 2, 0, 1, 60, 6, 0, 2, 0, 6, 0, 2, 0), ENDED);
        Check.dueSmallBits("above all floats", x.small(0, 0), Float.POSITIVE_INFINITY);
        Check.due("greater, lesser", Script.run(x, 0, 2, 0, 0, 0, 8, 1, 5, 0, 2, 2, 0, 0, 6, 2, 6, 1, 6, 1, 5, 0),
                ENDED);
        Check.dueSmallBits("the lesser", x.small(0, 2), -0.0f);
        Check.dueSmallBits("the greater", x.small(0, 1), 0.0f);
    }

    private static void dueNoNumber(int b, double x, double y) {
        MachineWitness witness = new MachineWitness();
        make(witness, 0, x);
        make(witness, 1, y);
        Check.due("ENDLESS: " + x + " op " + b + " " + y, Script.run(witness, 0, 5, 0, b, 1), ENDLESS);
        Check.dueBits("it stays", witness.real(0, 0), x);
        Script.run(witness, 0, 11, 0, 7, 0, 11, 1, 7, 1);
        Check.due("ENDLESS: floats " + x + " op " + b + " " + y, Script.run(witness, 0, 6, 0, b, 1), ENDLESS);
        Check.dueSmallBits("it stays", witness.small(0, 0), (float) x);
    }

    private static void noNumbers() {
        double endless = Double.POSITIVE_INFINITY;
        dueNoNumber(0, endless, -endless);
        dueNoNumber(0, -endless, endless);
        dueNoNumber(1, endless, endless);
        dueNoNumber(1, -endless, -endless);
        dueNoNumber(2, 0.0, -endless);
        dueNoNumber(2, endless, -0.0);
        dueNoNumber(3, 0.0, -0.0);
        dueNoNumber(3, endless, -endless);
        dueNoNumber(4, 3, -0.0);
        dueNoNumber(4, endless, 3);
        dueNoNumber(4, endless, endless);
    }

    private static void dueFunction(int fn, double x, double want) {
        MachineWitness witness = new MachineWitness();
        make(witness, 0, x);
        Check.due("fn", Script.run(witness, 0, 11, 0, 7, 0, 7, 1, fn, 0, 8, 1, fn, 0), ENDED);
        Check.dueBits("fn " + fn + " of " + x, witness.real(0, 1), want);
        Check.dueSmallBits("fn " + fn + " of float " + x, witness.small(0, 1), (float) want);
    }

    private static void functions() {
        double endless = Double.POSITIVE_INFINITY;
        dueFunction(0, -2.5, 2.5);
        dueFunction(0, -0.0, 0.0);
        dueFunction(0, -endless, endless);
        dueFunction(1, -2.5, -3);
        dueFunction(1, -0.25, -1);
        dueFunction(1, -0.0, -0.0);
        dueFunction(1, 2.75, 2);
        dueFunction(2, -2.5, -2);
        dueFunction(2, -0.25, -0.0);
        dueFunction(2, 2.25, 3);
        dueFunction(2, endless, endless);
        dueFunction(3, 2.5, 2);
        dueFunction(3, 3.5, 4);
        dueFunction(3, -0.5, -0.0);
        dueFunction(3, -1.5, -2);
        dueFunction(3, 0.75, 1);
        dueFunction(3, -endless, -endless);
        dueFunction(4, 0.25, 1);
        dueFunction(4, -endless, -1);
        dueFunction(4, -0.0, -0.0);
        dueFunction(4, 0.0, 0.0);
        dueFunction(5, 0.0, -0.0);
        dueFunction(5, -2.5, 2.5);
    }

    private static void comparisons() {
        MachineWitness x = new MachineWitness();
        Script.run(x, 0, 1, 0, 1, 0, 1, 1, 2, 0, 1, 2, 0, 0, 7, 3, 5, 2, 9, 0, 0, 1, 9, 1, 1, 0, 9, 2, 2, 3);
        Check.due("below", x.number(0, 0), -1);
        Check.due("above", x.number(0, 1), 1);
        Check.due("0.0s", x.number(0, 2), 0);
        Script.run(x, 0, 2, 0, 1, 0, 2, 1, 2, 0, 2, 2, 0, 0, 8, 3, 5, 2, 10, 0, 0, 1, 10, 1, 1, 0, 10, 2, 2, 3);
        Check.due("below", x.number(0, 0), -1);
        Check.due("above", x.number(0, 1), 1);
        Check.due("0.0s", x.number(0, 2), 0);
    }

    private static void casts() {
        MachineWitness x = new MachineWitness();
        Script.run(x, 0, wide(0, 0x123456789ABC8DEFL));
        Script.run(x, 0, 11, 1, 8, 0, 11, 2, 9, 0, 11, 3, 10, 0, 11, 4, 11, 0, 11, 0, 0, 0, 11, 0, 3, 0);
        Check.due("a byte", x.number(0, 1), -17);
        Check.due("a short", x.number(0, 2), (short) 0x8DEF);
        Check.due("a char", x.number(0, 3), 0x8DEF);
        Check.due("an int", x.number(0, 4), (int) 0x9ABC8DEFL);
        Check.dueBits("a double", x.real(0, 0), 0x123456789ABC8DEFL);
        Check.dueSmallBits("a float", x.small(0, 0), 0x123456789ABC8DEFL);
        Script.run(x, 0, 1, 0, -7, -1, 11, 0, 1, 0, 11, 1, 2, 0, 1, 1, 1, 60, 5, 1, 2, 1, 11, 2, 1, 1, 11, 3, 2, 1,
                11, 2, 7, 1, 11, 2, 6, 2);
        Check.due("-3.5 as a long", x.number(0, 0), -3);
        Check.due("-3.5 as an int", x.number(0, 1), -3);
        Check.due("too great for a long", x.number(0, 2), Long.MAX_VALUE);
        Check.due("too great for an int", x.number(0, 3), Integer.MAX_VALUE);
        Check.dueBits("a float's", x.real(0, 2), Math.pow(2, 120));
        Script.run(x, 0, 2, 0, -1, 60, 6, 0, 2, 0, 8, 0, 5, 0, 11, 0, 4, 0, 11, 1, 5, 0);
        Check.due("a float, too low for a long", x.number(0, 0), Long.MIN_VALUE);
        Check.due("a float, too low for an int", x.number(0, 1), Integer.MIN_VALUE);
    }
}
