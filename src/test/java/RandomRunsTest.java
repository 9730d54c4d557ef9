import java.util.Random;

/** Random PROGRAMS with HANDLERS, CALLS, jumps and LOCKS, in THREADS by turns: the Oracle answers alike. */
public final class RandomRunsTest {
    private static final int RUNS = 5000;
    private static final int[] EDGES = {
        0, 1, -1, 2, 3, 5, 7, 11, 12, 13, 39, 40, 41, 65, 66, 500, 501, 2000000000, Integer.MAX_VALUE,
        Integer.MIN_VALUE};
    private static final int[] FLOW_OPS = {
        0, 0, 3, 12, 14, 18, 18, 36, 42, 49, 51, 53, 54, 55, 58, 58, 59, 60, 60, 61, 62, 62, 62, 63, 64, 64, 64, 64,
        64, 64, 65, 65};

    private final Random random;
    private final Pair pair;
    private final boolean flow;
    private final boolean quiet;

    private RandomRunsTest(int seed) {
        random = new Random(seed);
        pair = new Pair("run " + seed);
        flow = seed % 3 > 0;
        quiet = seed % 2 > 0;
    }

    public static void main(String[] args) {
        for (int seed = 0; seed < RUNS && !Check.anyWrong(); seed++) {
            new RandomRunsTest(seed).runCalls();
        }
        dueSeen(58, 1, 20, 21, 22, 23, 24, 25, 26, 27, 28, 29, 11);
        dueSeen(62, 0, 9);
        dueSeen(64, 0, 1, 31);
        dueSeen(65, 0, 1, 7);
        for (int op = 59; op <= 63; op++) {
            dueSeen(op, 0);
        }
        Check.due("rings seen", Pair.ringsSeen >= 10 ? 1 : 0, 1);
        Check.end();
    }

    private static void dueSeen(int op, int... outcomes) {
        for (int outcome : outcomes) {
            Check.due("op " + op + " seen with outcome " + outcome, Oracle.SEEN[op][outcome] >= 10 ? 1 : 0, 1);
        }
    }

    private int below(int n) {
        return random.nextInt(n);
    }

    private int edge() {
        return EDGES[below(EDGES.length)];
    }

    private void runCalls() {
        for (int rounds = 1 + below(3); rounds > 0; rounds--) {
            for (int p = 0; p < 6; p++) {
                if (below(6) > 0) {
                    fill(p);
                }
            }
            for (int s = 0; flow && s < 3; s++) {
                giveThings(s);
            }
            for (int k = 8 + below(20); k > 0; k--) {
                moveOn();
                pair.compareAll();
                if (Check.anyWrong()) {
                    return;
                }
            }
            if (below(3) == 0) {
                pair.clear();
                pair.compareAll();
            }
        }
    }

    /** THINGS that all THREADS hold, so that they come to WAIT for one another. */
    private void giveThings(int s) {
        if (s > 0 || pair.empty(5) < 0) {
            return;
        }
        for (int k = 0; k < 4; k++) {
            pair.act(5, 18, k, below(5), 0);
        }
        if (pair.start(0, 5) == 1) {
            pair.turn(0, 4);
        }
        for (int k = 0; k < 4; k++) {
            pair.share(0, k, 1, (k + 1) % 4);
            pair.share(0, k, 2, (k + 2) % 4);
        }
    }

    private void fill(int p) {
        if (below(4) == 0) {
            pair.empty(p);
        }
        for (int k = 1 + below(flow ? 12 : 42); k > 0; k--) {
            addAct(p);
        }
        for (int k = below(flow ? 3 : 7); k > 0; k--) {
            int from = below(3) == 0 ? 0 : below(20);
            int to = below(3) == 0 ? 40 : from + 1 + below(5);
            int failure = below(2) == 0 ? -1 : below(32) - 1;
            int place = below(30) == 0 ? edge() : below(flow ? 14 : 40);
            pair.handler(p, from, to, failure, place);
        }
    }

    private void addAct(int p) {
        int op = flow && below(12) > 0 ? FLOW_OPS[below(FLOW_OPS.length)] : below(66);
        if (quiet && op == 58) {
            op = 63;
        }
        int a = argument(op >= 59 && op <= 61 ? (flow ? 14 : 40) : op == 62 ? 6 : op == 54 ? 4 : 8);
        int b = op == 58 ? below(12) == 0 ? -1 : 19 + below(12) : op == 0 ? below(6) - 2 : argument(op == 18 ? 5 : 8);
        int c = argument(op == 60 ? 4 : 8);
        pair.act(below(100) == 0 ? edge() : p, op, a, b, c);
    }

    private int argument(int n) {
        int which = below(80);
        return which == 0 ? edge() : which == 1 ? n : below(3) > 0 ? below(Math.min(n, 4)) : below(n);
    }

    private void moveOn() {
        int thread = below(60) == 0 ? edge() : below(3);
        switch (below(6)) {
            case 0:
            case 1:
                pair.start(thread, below(60) == 0 ? edge() : below(6));
                break;
            case 2:
                if (below(3) == 0) {
                    addAct(below(6));
                }
                break;
            default:
                pair.turn(thread, below(60) == 0 ? edge() : below(2) == 0 ? 1 + below(4) : 1 + below(500));
                break;
        }
    }
}
