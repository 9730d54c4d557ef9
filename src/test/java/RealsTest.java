import java.util.Random;

/** DOUBLES and FLOATS of all sizes, made by ACTS, through every op and function: as the Java machine has them. */
public final class RealsTest {
    private static final int PAIRS = 12000;
    private static final long[] EDGES = {
        0L, 1L, 2L, 3L, 0x000FFFFFFFFFFFFFL, 0x0010000000000000L, 0x0010000000000001L, 0x3FDFFFFFFFFFFFFFL,
        0x3FE0000000000000L, 0x3FE0000000000001L, 0x3FEFFFFFFFFFFFFFL, 0x3FF0000000000000L, 0x3FF0000000000001L,
        0x3FF8000000000000L, 0x4000000000000000L, 0x4004000000000000L, 0x4010000000000000L, 0x432FFFFFFFFFFFFFL,
        0x4330000000000000L, 0x4330000000000001L, 0x4340000000000000L, 0x43DFFFFFFFFFFFFFL, 0x43E0000000000000L,
        0x41DFFFFFFFC00000L, 0x41E0000000000000L, 0x36A0000000000000L, 0x3690000000000000L, 0x3690000000000001L,
        0x3800000000000000L, 0x380FFFFFC0000000L, 0x3810000000000000L, 0x47EFFFFFE0000000L, 0x47EFFFFFF0000000L,
        0x47F0000000000000L, 0x7FE0000000000000L, 0x7FEFFFFFFFFFFFFFL, 0x7FF0000000000000L};

    private final Random random = new Random(7);
    private final MachineWitness witness = new MachineWitness();

    public static void main(String[] args) {
        RealsTest test = new RealsTest();
        for (int k = 0; k < EDGES.length * EDGES.length * 4; k++) {
            int i = k / 4;
            double x = Double.longBitsToDouble(EDGES[i % EDGES.length] | (k & 1L) << 63);
            double y = Double.longBitsToDouble(EDGES[i / EDGES.length] | (k & 2L) << 62);
            test.tryPair(x, y);
        }
        for (int k = 0; k < PAIRS; k++) {
            test.tryPair(test.anyDouble(), test.anyDouble());
        }
        Check.end();
    }

    private double anyDouble() {
        long bits = random.nextLong();
        switch (random.nextInt(6)) {
            case 0: bits &= 0xFFFF000000000000L; break;
            case 1: bits = bits & 0x800FFFFFFFFFFFFFL | (long) (1023 - 30 + random.nextInt(90)) << 52; break;
            case 2: bits = bits & 0x800FFFFFFFFFFFFFL >> random.nextInt(40); break;
            case 3: bits = bits & 0x800FFFFFE0000000L | (long) (1023 - 150 + random.nextInt(280)) << 52; break;
            default: break;
        }
        double x = Double.longBitsToDouble(bits);
        return Double.isNaN(x) ? 1.5 : x;
    }

    private int place(int op, int a, int b, int c) {
        int place = witness.act(0, op, a, b, c);
        if (place < 0) {
            throw new IllegalStateException("act " + op + " " + a + " " + b + " " + c);
        }
        return place;
    }

    private void runProgram() {
        witness.start(0, 0);
        if (witness.turn(0, 500) != 0) {
            throw new IllegalStateException("the program did not end");
        }
    }

    /** X a becomes x: a mantissa by way of N 0 .. 2, then factors of 2 to the 60 or less. */
    private void makeDouble(int a, double x) {
        witness.empty(0);
        double size = Math.abs(x);
        if (Double.isInfinite(size)) {
            place(1, a, 1, 0);
            place(1, 3, 0, 0);
            place(5, a, 3, 3);
        } else {
            long bits = Double.doubleToRawLongBits(size);
            long mantissa = bits & 0xFFFFFFFFFFFFFL;
            int exponent = (int) (bits >>> 52);
            mantissa |= exponent == 0 ? 0L : 1L << 52;
            place(0, 0, (int) (mantissa >> 28), 0);
            place(0, 1, 28, 0);
            place(3, 0, 5, 1);
            place(0, 1, (int) (mantissa & 0xFFFFFFF), 0);
            place(3, 0, 9, 1);
            place(11, a, 0, 0);
            for (int left = Math.max(exponent, 1) - 1075; left != 0; ) {
                int step = Math.max(-60, Math.min(60, left));
                place(1, 3, 1, step);
                for (; left / step > 0; left -= step) {
                    place(5, a, 2, 3);
                }
            }
        }
        if (Double.doubleToRawLongBits(x) < 0) {
            place(7, a, 5, a);
        }
        runProgram();
        Check.dueBits("made " + x, witness.real(0, a), x);
    }

    private void tryPair(double x, double y) {
        makeDouble(0, x);
        makeDouble(1, y);
        float f = (float) x;
        float g = (float) y;
        witness.empty(0);
        place(11, 0, 7, 0);
        place(11, 1, 7, 1);
        runProgram();
        Check.dueSmallBits("as a float " + x, witness.small(0, 0), f);
        Check.dueSmallBits("as a float " + y, witness.small(0, 1), g);
        for (int op = 0; op <= 7; op++) {
            tryOp(op, x, y, f, g);
        }
        for (int fn = 0; fn <= 5; fn++) {
            witness.empty(0);
            place(7, 2, fn, 0);
            place(8, 2, fn, 0);
            runProgram();
            Check.dueBits("fn " + fn + " of " + x, witness.real(0, 2), Oracle.doubleFn(fn, x));
            Check.dueSmallBits("fn " + fn + " of float " + f, witness.small(0, 2), Oracle.floatFn(fn, f));
        }
        tryCasts(x, y, f, g);
    }

    private void tryOp(int op, double x, double y, float f, float g) {
        witness.empty(0);
        place(7, 2, 5, 0);
        place(7, 2, 5, 2);
        place(8, 2, 5, 0);
        place(8, 2, 5, 2);
        place(5, 2, op, 1);
        witness.start(0, 0);
        double due = Oracle.doubleOp(op, x, y);
        String call = x + " op " + op + " " + y;
        Check.due(call, witness.turn(0, 500), Double.isNaN(due) ? -18 : 0);
        Check.dueBits(call, witness.real(0, 2), Double.isNaN(due) ? x : due);
        witness.empty(0);
        place(6, 2, op, 1);
        witness.start(0, 0);
        float smallDue = Oracle.floatOp(op, f, g);
        call = f + " op " + op + " float " + g;
        Check.due(call, witness.turn(0, 500), Float.isNaN(smallDue) ? -18 : 0);
        Check.dueSmallBits(call, witness.small(0, 2), Float.isNaN(smallDue) ? f : smallDue);
    }

    private void tryCasts(double x, double y, float f, float g) {
        witness.empty(0);
        place(9, 0, 0, 1);
        place(10, 1, 0, 1);
        place(11, 2, 1, 0);
        place(11, 3, 2, 0);
        place(11, 4, 4, 0);
        place(11, 5, 5, 0);
        place(11, 2, 6, 0);
        place(11, 2, 3, 2);
        place(11, 3, 0, 2);
        runProgram();
        Check.due("9 of " + x + " " + y, witness.number(0, 0), x < y ? -1 : x > y ? 1 : 0);
        Check.due("10 of " + f + " " + g, witness.number(0, 1), f < g ? -1 : f > g ? 1 : 0);
        Check.due("long of " + x, witness.number(0, 2), (long) x);
        Check.due("int of " + x, witness.number(0, 3), (int) x);
        Check.due("long of float " + f, witness.number(0, 4), (long) f);
        Check.due("int of float " + f, witness.number(0, 5), (int) f);
        Check.dueBits("double of float " + f, witness.real(0, 2), f);
        Check.dueSmallBits("float of long " + (long) x, witness.small(0, 2), (long) x);
        Check.dueBits("double of long " + (long) x, witness.real(0, 3), (long) x);
    }
}
