/** Promise 2, with the numbers of paragraph 2: of each op the first and the last that is taken, and those beside. */
public final class ActBoundsTest {
    private static final int L = Integer.MIN_VALUE, M = Integer.MAX_VALUE;
    private static final int BAD = -1, FULL = -3;

    // op; then of a, of b, of c the first and the last that is taken. L, M: every number is. Two alike: a given one.
    private static final int[][] RANGES = {
        {0, 0, 7, L, M, L, M}, {1, 0, 3, L, M, -60, 60}, {2, 0, 3, L, M, -60, 60}, {3, 0, 7, 0, 11, 0, 7},
        {4, 0, 7, 0, 11, 0, 7}, {5, 0, 3, 0, 7, 0, 3}, {6, 0, 3, 0, 7, 0, 3}, {7, 0, 3, 0, 5, 0, 3},
        {8, 0, 3, 0, 5, 0, 3}, {9, 0, 7, 0, 3, 0, 3}, {10, 0, 7, 0, 3, 0, 3},
        {11, 0, 3, 0, 0, 0, 7}, {11, 0, 7, 1, 1, 0, 3}, {11, 0, 7, 2, 2, 0, 3}, {11, 0, 3, 3, 3, 0, 7},
        {11, 0, 7, 4, 4, 0, 3}, {11, 0, 7, 5, 5, 0, 3}, {11, 0, 3, 6, 6, 0, 3}, {11, 0, 3, 7, 7, 0, 3},
        {11, 0, 7, 8, 8, 0, 7}, {11, 0, 7, 9, 9, 0, 7}, {11, 0, 7, 10, 10, 0, 7}, {11, 0, 7, 11, 11, 0, 7},
        {11, 0, 0, 0, 11, 0, 0}, {12, 0, 7, L, M, 0, 7}, {13, 0, 7, L, M, L, M}, {14, 0, 7, 0, 7, 0, 7},
        {15, 0, 7, 0, 4, 0, 7}, {16, 0, 7, 0, 7, 0, 7}, {17, 0, 7, 0, 7, 0, 7}, {18, 0, 7, 0, 4, L, M},
        {20, 0, 7, 0, 7, 0, 7}, {21, 0, 7, 0, 7, 0, 7}, {22, 0, 7, 0, 7, 0, 7}, {23, 0, 7, 0, 7, 0, 7},
        {24, 0, 7, 0, 7, 0, 7}, {25, 0, 7, 0, 7, 0, 7}, {26, 0, 3, 0, 7, 0, 7}, {27, 0, 3, 0, 7, 0, 7},
        {28, 0, 7, 0, 7, 0, 7}, {29, 0, 7, 0, 7, 0, 7}, {30, 0, 7, 0, 7, 0, 7}, {31, 0, 7, 0, 7, 0, 7},
        {32, 0, 7, 0, 7, 0, 7}, {33, 0, 7, 0, 7, 0, 7}, {34, 0, 3, 0, 7, 0, 7}, {35, 0, 3, 0, 7, 0, 7},
        {36, 0, 7, 0, 7, 0, 7}, {37, 0, 7, 0, 7, 0, 7}, {38, 0, 7, 0, 7, 0, 7}, {39, 0, 7, 0, 7, 0, 7},
        {40, 0, 7, 0, 7, 0, 7}, {41, 0, 7, 0, 7, 0, 7}, {42, 0, 7, 0, 7, L, M}, {43, 0, 7, 0, 7, 0, 7},
        {44, 0, 3, 0, 7, 0, 7}, {45, 0, 7, 0, 7, 0, 7}, {46, 0, 7, 0, 7, L, M}, {47, 0, 7, 0, 7, L, M},
        {48, 0, 7, 0, 7, 0, 25}, {49, 0, 7, 0, 7, 0, 25}, {50, 0, 7, 0, 7, 0, 7},
        {51, 0, 7, 0, 0, 0, 7}, {51, 0, 3, 1, 1, 0, 7}, {51, 0, 3, 2, 2, 0, 7}, {51, 0, 7, 3, 3, 0, 7},
        {51, 0, 7, 4, 4, 0, 7}, {51, 0, 7, 5, 5, 0, 7}, {51, 0, 7, 6, 6, 0, 7}, {51, 0, 7, 7, 7, 0, 7},
        {51, 0, 7, 8, 8, 0, 7}, {51, 0, 0, 0, 8, 0, 0}, {52, 0, 7, 0, 0, 0, 7}, {52, 0, 3, 1, 1, 0, 7},
        {52, 0, 3, 2, 2, 0, 7}, {52, 0, 7, 3, 3, 0, 7}, {52, 0, 7, 4, 4, 0, 7}, {52, 0, 7, 6, 6, 0, 7},
        {52, 0, 7, 7, 7, 0, 7}, {52, 0, 7, 8, 8, 0, 7}, {52, 0, 0, 0, 8, 0, 0}, {53, 0, 7, 0, 7, 0, 7},
        {54, 0, 3, 0, 7, L, M}, {55, 0, 7, 0, 7, L, M}, {56, 0, 7, 0, 7, 0, 7}, {57, 0, 3, 0, 7, L, M},
        {58, L, M, -1, 29, L, M}, {59, 0, 39, L, M, L, M}, {60, 0, 39, 0, 7, 0, 3}, {61, 0, 39, 0, 7, L, M},
        {62, 0, 5, L, M, L, M}, {63, L, M, L, M, L, M}, {64, L, M, 0, 7, L, M}, {65, L, M, 0, 7, L, M}};

    public static void main(String[] args) {
        ranges();
        allOpsAreTold();
        numbersLeftOut();
        ops();
        programs();
        places();
        badBeforeFull();
        fullChangesNothing();
        badChangesNothing();
        notRefusedUnderWay();
        edgesOfRegisters();
        Check.end();
    }

    private static void dueAct(int[] act, int want) {
        Witness x = new Witness();
        String call = "act(0, " + act[0] + ", " + act[1] + ", " + act[2] + ", " + act[3] + ")";
        Check.due(call, x.act(0, act[0], act[1], act[2], act[3]), want);
        Check.due(call + ": acts", x.count(1), want == 0 ? 1 : 0);
        Check.due(call + ": the next place", x.act(0, 63, 0, 0, 0), want == 0 ? 1 : 0);
    }

    private static void ranges() {
        for (int[] row : RANGES) {
            for (int which = 0; which < 3; which++) {
                sides(row, which);
            }
        }
    }

    private static int[] actOf(int[] row, int which, int value) {
        int[] act = {row[0], row[1], row[3], row[5]};
        for (int k = 1; k < 4; k++) {
            act[k] = act[k] == L ? 0 : act[k];
        }
        act[1 + which] = value;
        return act;
    }

    private static void sides(int[] row, int which) {
        int first = row[1 + 2 * which];
        int last = row[2 + 2 * which];
        if (first == last) {
            return;
        }
        dueAct(actOf(row, which, first), 0);
        dueAct(actOf(row, which, last), 0);
        if (first != L) {
            for (int beside : new int[] {first - 1, last + 1, L, M}) {
                dueAct(actOf(row, which, beside), BAD);
            }
        }
    }

    /** That the table above forgets no op. */
    private static void allOpsAreTold() {
        boolean[] seen = new boolean[66];
        for (int[] row : RANGES) {
            seen[row[0]] = true;
        }
        for (int op = 0; op <= 65; op++) {
            Check.due("op " + op + " is in the table", seen[op] ? 1 : 0, op == 19 ? 0 : 1);
        }
    }

    /** Kind 15, the field 5 of 52, and 0 .. 19 of 58 lie between numbers that are taken. */
    private static void numbersLeftOut() {
        for (int kind = 0; kind <= 25; kind++) {
            dueAct(new int[] {48, 0, 0, kind}, kind == 15 ? BAD : 0);
            dueAct(new int[] {49, 0, 0, kind}, kind == 15 ? BAD : 0);
        }
        for (int b = 0; b <= 8; b++) {
            dueAct(new int[] {51, 0, b, 0}, 0);
            dueAct(new int[] {52, 0, b, 0}, b == 5 ? BAD : 0);
        }
        for (int b = -1; b <= 29; b++) {
            dueAct(new int[] {58, 0, b, 0}, b == -1 || b >= 20 ? 0 : BAD);
        }
    }

    private static void ops() {
        for (int op : new int[] {L, -1, 19, 66, 67, M}) {
            for (int number : new int[] {L, -1, 0, 1, 2, 3, 5, 7, 39, M}) {
                dueAct(new int[] {op, number, number, number}, BAD);
                dueAct(new int[] {op, number, 0, 0}, BAD);
            }
        }
        for (int op : new int[] {0, 18, 20, 65}) {
            dueAct(new int[] {op, 0, 0, 0}, 0);
        }
    }

    private static void programs() {
        Witness x = new Witness();
        for (int program : new int[] {L, -1, 6, M}) {
            Check.due("act of program " + program, x.act(program, 63, 0, 0, 0), BAD);
        }
        for (int program = 0; program <= 5; program++) {
            Check.due("acts of program " + program, x.count(1 + program), 0);
        }
        Check.due("act of program 0", x.act(0, 63, 0, 0, 0), 0);
        Check.due("act of program 5", x.act(5, 63, 0, 0, 0), 0);
        for (int program = 0; program <= 5; program++) {
            Check.due("acts of program " + program, x.count(1 + program), program == 0 || program == 5 ? 1 : 0);
        }
    }

    /** "ACTS, 40 at most, at PLACES 0, 1, ..": of each PROGRAM for itself. */
    private static void places() {
        Witness x = new Witness();
        for (int program = 0; program <= 5; program++) {
            for (int place = 0; place < 40; place++) {
                Check.due("place", x.act(program, 63, 0, 0, 0), place);
            }
            Check.due("act 41 of program " + program, x.act(program, 63, 0, 0, 0), FULL);
            Check.due("acts of program " + program, x.count(1 + program), 40);
        }
        Check.due("empty", x.empty(3), 40);
        Check.due("room again", x.act(3, 63, 0, 0, 0), 0);
    }

    private static void badBeforeFull() {
        Witness x = new Witness();
        for (int place = 0; place < 40; place++) {
            x.act(2, 63, 0, 0, 0);
        }
        Check.due("full", x.act(2, 0, 7, 0, 0), FULL);
        Check.due("a BAD op", x.act(2, 66, 0, 0, 0), BAD);
        Check.due("a BAD a", x.act(2, 0, 8, 0, 0), BAD);
        Check.due("a BAD b", x.act(2, 3, 0, 12, 0), BAD);
        Check.due("a BAD c", x.act(2, 3, 0, 0, 8), BAD);
    }

    /** 40 ACTS: each adds 1 to N 0. Those that are refused would make it something else. */
    private static void fillWithSteps(Witness x) {
        x.add(0, 0, 1, 1, 0);
        for (int place = 1; place < 40; place++) {
            x.add(0, 3, 0, 0, 1);
        }
    }

    private static void fullChangesNothing() {
        Twins.unchanged("acts refused as FULL", ActBoundsTest::fillWithSteps, x -> {
            Check.due("FULL", x.act(0, 0, 0, 77, 0), FULL);
            Check.due("FULL", x.act(0, 58, 0, 20, 0), FULL);
        }, x -> {
            x.start(0, 0);
            Check.due("40 acts end", x.turn(0, 40), 0);
            Check.due("N 0", x.number(0, 0), 39);
        });
    }

    private static void badChangesNothing() {
        Twins.unchanged("acts refused as BAD", x -> x.add(0, 0, 0, 5, 0), x -> {
            Check.due("BAD", x.act(0, 0, 8, 77, 0), BAD);
            Check.due("BAD", x.act(0, 19, 0, 77, 0), BAD);
            Check.due("BAD", x.act(6, 0, 0, 77, 0), BAD);
            Check.due("BAD", x.act(-1, 0, 0, 77, 0), BAD);
        }, x -> {
            Check.due("the next place", x.act(0, 0, 1, 6, 0), 1);
            x.start(0, 0);
            Check.due("two acts end", x.turn(0, 2), 0);
        });
    }

    /** The document names no STATE for act: while a THREAD is under way, in that very PROGRAM, ACTS come to it. */
    private static void notRefusedUnderWay() {
        Witness x = new Witness();
        x.add(0, 0, 0, 1, 0, 0, 0, 2, 0);
        x.start(1, 0);
        Check.due("one act", x.turn(1, 1), 1);
        Check.due("act", x.act(0, 0, 0, 3, 0), 2);
        Check.due("one act", x.turn(1, 1), 1);
        Check.due("the new one", x.turn(1, 1), 0);
        Check.due("N 0", x.number(1, 0), 3);
    }

    /** The first and the last register of each sort are those that the calls show, of each THREAD for itself. */
    private static void edgesOfRegisters() {
        for (int s = 0; s <= 2; s++) {
            Witness x = new Witness();
            x.add(0, 0, 0, L, 0, 0, 7, M, 0, 1, 0, L, 60, 1, 3, M, -60, 2, 0, L, 60, 2, 3, M, -60, 18, 0, 0, 0,
                    18, 7, 4, 0);
            x.start(s, 0);
            Check.due("edges of registers", x.turn(s, 8), 0);
            for (int other = 0; other <= 2; other++) {
                boolean own = other == s;
                for (int k = 0; k <= 7; k++) {
                    Check.due("N " + k, x.number(other, k), !own ? 0 : k == 0 ? L : k == 7 ? M : 0);
                    Check.due("T " + k, x.hold(other, k), !own ? -1 : k == 0 ? 0 : k == 7 ? 1 : -1);
                }
                for (int k = 0; k <= 3; k++) {
                    double value = !own ? 0 : k == 0 ? L * 0x1p60 : k == 3 ? M * 0x1p-60 : 0;
                    Check.dueBits("X " + k, x.real(other, k), value);
                    Check.dueSmallBits("F " + k, x.small(other, k), (float) value);
                }
            }
        }
    }
}
