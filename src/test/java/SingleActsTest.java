import java.util.Random;

/** Random ACTS, one at a time, most of them chosen to fit what the THREAD holds: the Oracle answers alike. */
public final class SingleActsTest {
    private static final int RUNS = 150, ACTS = 1500;
    private static final int[] EDGES = {
        0, 1, -1, 2, 3, 5, 7, 11, 12, 13, 31, 32, 33, 63, 64, 127, 128, 255, 256, 32767, 32768, 65535, 65536,
        -128, -129, 16777217, 2000000000, Integer.MAX_VALUE, Integer.MIN_VALUE};

    private final Random random;
    private final Pair pair;
    private int thread;

    private SingleActsTest(int seed) {
        random = new Random(seed);
        pair = new Pair("run " + seed);
    }

    public static void main(String[] args) {
        for (int seed = 0; seed < RUNS && !Check.anyWrong(); seed++) {
            new SingleActsTest(seed).runActs();
        }
        dueSeen(3, 0, 6);
        dueSeen(4, 0, 6);
        dueSeen(5, 0, 8);
        dueSeen(6, 0, 8);
        dueSeen(14, 0, 5, 9);
        dueSeen(15, 0, 5, 9);
        dueSeen(16, 0, 5, 9);
        dueSeen(17, 0, 5, 9);
        dueSeen(18, 0, 9);
        for (int op = 20; op <= 41; op++) {
            dueSeen(op, 0, 1, 2, 3);
        }
        dueSeen(39, 4);
        dueSeen(42, 0, 1, 10);
        dueSeen(43, 0, 1, 2, 10);
        dueSeen(44, 0, 1, 2, 10);
        dueSeen(45, 0, 1, 2, 10);
        dueSeen(46, 0, 1, 2, 4);
        dueSeen(47, 0, 1, 3, 9);
        dueSeen(49, 0, 3);
        for (int op = 51; op <= 57; op++) {
            dueSeen(op, 0, 1, 3);
        }
        dueSeen(54, 8);
        Check.end();
    }

    /** That the runs have come upon what they are for, ten times at least. */
    private static void dueSeen(int op, int... outcomes) {
        for (int outcome : outcomes) {
            Check.due("op " + op + " seen with outcome " + outcome, Oracle.SEEN[op][outcome] >= 10 ? 1 : 0, 1);
        }
    }

    private int below(int n) {
        return random.nextInt(n);
    }

    private void runActs() {
        for (int k = 0; k < ACTS && !Check.anyWrong(); k++) {
            thread = below(8) == 0 ? 1 + below(2) : 0;
            if (below(40) == 0) {
                makeEndless(below(4), below(4));
            }
            int op = opToTry();
            int b = second(op);
            int c = third(op, b);
            int a = first(op, b);
            pair.once(thread, op, a, b, c);
            pair.compareThread(thread);
            for (int h = 0; h < 8; h++) {
                pair.compareThing(pair.want.hold(thread, h));
            }
            if (pair.want.count(0) == 160 && below(25) == 0) {
                pair.compareAll();
                pair.clear();
                pair.compareAll();
            }
        }
        pair.compareAll();
    }

    private void makeEndless(int k, int by) {
        int op = below(2);
        pair.once(thread, 1 + op, k, below(2) * 2 - 1, 0);
        pair.once(thread, 1 + op, by, 0, 0);
        pair.once(thread, 5 + op, k, 3, by);
    }

    private int opToTry() {
        switch (below(12)) {
            case 0: return 0;
            case 1: return 1 + below(2);
            case 2: return 14 + below(5);
            case 3: return 20 + below(22);
            case 4: return 39 + below(9);
            case 5: return 51 + below(7);
            case 6: return 3 + below(9);
            case 7: return 52;
            case 8: return 36 + below(6);
            default: return below(58);
        }
    }

    private int first(int op, int b) {
        if (op == 46) {
            return holdOf(sortOf(b), 60);
        }
        if (op == 39 || (op == 52 && b == 3)) {
            return below(3) == 0 ? below(8) : holdBetween(16, 20);
        }
        if (op == 40 || (op == 52 && b == 4)) {
            return holdOf(4, 70);
        }
        if (op == 41) {
            return holdOf(7, 70);
        }
        return below(usesReal(op, b) ? 4 : 8);
    }

    private static boolean usesReal(int op, int b) {
        if (op == 11 || op == 51 || op == 52) {
            return op == 11 ? b == 0 || b == 3 || b == 6 || b == 7 : b == 1 || b == 2;
        }
        return op == 1 || op == 2 || (op >= 5 && op <= 8) || op == 26 || op == 27 || op == 34 || op == 35 || op == 44
                || op == 54 || op == 57;
    }

    private int second(int op) {
        if (op == 0 || op == 1 || op == 2) {
            return below(4) == 0 ? EDGES[below(EDGES.length)] : below(9) - 1;
        }
        if (op >= 20 && op < 36) {
            return holdOf((op - 20) % 8, 80);
        }
        if (op >= 36 && op < 42) {
            int which = (op - 36) % 3;
            return which == 0 ? holdBetween(8, 12) : holdOf(12 + which, 80);
        }
        if (op >= 43 && op <= 47) {
            return op == 45 ? holdBetween(4, 7) : holdBetween(0, 7);
        }
        if (op >= 53 && op <= 57) {
            return op == 57 ? holdOf(20, 70) : op == 56 ? holdBetween(18, 19) : holdBetween(16, 20);
        }
        switch (op) {
            case 3: case 4: case 11: return below(12);
            case 7: case 8: return below(6);
            case 9: case 10: return below(4);
            case 15: case 18: return below(5);
            case 16: case 17: return numberUpTo(6);
            case 51: case 52: return below(9);
            default: return below(8);
        }
    }

    private int third(int op, int b) {
        if (op == 1 || op == 2) {
            return below(121) - 60;
        }
        if (op == 48 || op == 49) {
            return below(26);
        }
        if (op == 51 || op == 52) {
            return b == 8 ? holdOf(19, 70) : b == 7 ? holdBetween(17, 19) : holdBetween(16, 20);
        }
        if (op >= 20 && op <= 45) {
            return below(5) == 0 ? below(8) : numberUpTo(pair.want.thing(pair.want.hold(thread, b), 1) - 1);
        }
        if (op == 5 || op == 6 || op == 7 || op == 8 || op == 9 || op == 10) {
            return below(4);
        }
        if (op == 11) {
            return below(b == 0 || b == 3 || b >= 8 ? 8 : 4);
        }
        return op >= 14 && op <= 17 ? numberUpTo(12) : below(8);
    }

    private int sortOf(int hold) {
        return pair.want.thing(pair.want.hold(thread, hold), 0);
    }

    /** A HOLD with a THING of that SORT, if there is one, so many times of a hundred. */
    private int holdOf(int sort, int often) {
        return below(100) < often ? holdBetween(sort, sort) : below(8);
    }

    private int holdBetween(int least, int most) {
        int from = below(8);
        for (int k = 0; k < 8 && below(20) > 0; k++) {
            int sort = sortOf((from + k) % 8);
            if (sort >= least && sort <= most) {
                return (from + k) % 8;
            }
        }
        return from;
    }

    private int numberUpTo(int most) {
        int from = below(8);
        for (int k = 0; k < 8 && below(20) > 0; k++) {
            long value = pair.want.number(thread, (from + k) % 8);
            if (value >= 0 && value <= most) {
                return (from + k) % 8;
            }
        }
        return from;
    }
}
