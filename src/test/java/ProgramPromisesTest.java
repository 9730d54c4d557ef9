/** Promises 1 to 5: a new object, act, handler, empty, start; 17 and 18: count, clear. */
public final class ProgramPromisesTest {
    private static final int LEAST_INT = Integer.MIN_VALUE, MOST_INT = Integer.MAX_VALUE;

    public static void main(String[] args) {
        newObject();
        placesOfActs();
        badActs();
        goodActs();
        handlers();
        emptyPrograms();
        starts();
        counts();
        clears();
        Check.end();
    }

    private static void newObject() {
        dueNew("new", new MachineWitness());
    }

    private static void dueNew(String when, MachineWitness x) {
        for (int what = 0; what <= 7; what++) {
            Check.due(when + " count " + what, x.count(what), 0);
        }
        for (int s = 0; s < 3; s++) {
            for (int k = 0; k < 8; k++) {
                Check.due(when + " number", x.number(s, k), 0);
                Check.due(when + " hold", x.hold(s, k), -1);
                Check.due(when + " real", x.real(s, k), k < 4 ? 0 : Long.MIN_VALUE);
                Check.due(when + " small", x.small(s, k), k < 4 ? 0 : Long.MIN_VALUE);
                Check.due(when + " told " + k, x.told(s, k), k == 3 || k == 4 || k == 6 ? -1 : 0);
            }
            Check.due(when + " ring", x.ring(s), 0);
            Check.due(when + " turn", x.turn(s, 1), -2);
        }
        Check.due(when + " trace", x.trace(), 0);
        Check.due(when + " thing", x.thing(0, 0), -2);
    }

    private static void placesOfActs() {
        MachineWitness x = new MachineWitness();
        for (int place = 0; place < 40; place++) {
            Check.due("act", x.act(3, 63, 0, 0, 0), place);
        }
        Check.due("act FULL", x.act(3, 63, 0, 0, 0), -3);
        Check.due("act BAD before FULL", x.act(3, 66, 0, 0, 0), -1);
        Check.due("act of another program", x.act(4, 63, 0, 0, 0), 0);
        Check.due("acts", x.count(4), 40);
        Check.due("a refusal changes nothing", x.count(5), 1);
        for (int program : new int[] {-1, 6, LEAST_INT, MOST_INT}) {
            Check.due("act of no program", x.act(program, 63, 0, 0, 0), -1);
        }
    }

    /** Of each op a number that is as told at its edges, and those beside them. */
    private static void goodActs() {
        int any = 123456789;
        int[][] good = {
            {0, 7, LEAST_INT, any}, {0, 0, MOST_INT, any}, {1, 3, LEAST_INT, -60}, {1, 0, MOST_INT, 60},
            {2, 3, any, -60}, {2, 0, any, 60}, {3, 7, 11, 7}, {4, 7, 11, 7}, {5, 3, 7, 3}, {6, 3, 7, 3},
            {7, 3, 5, 3}, {8, 3, 5, 3}, {9, 7, 3, 3}, {10, 7, 3, 3}, {11, 3, 0, 7}, {11, 7, 1, 3}, {11, 7, 2, 3},
            {11, 3, 3, 7}, {11, 7, 4, 3}, {11, 7, 5, 3}, {11, 3, 6, 3}, {11, 3, 7, 3}, {11, 7, 8, 7},
            {11, 7, 9, 7}, {11, 7, 10, 7}, {11, 7, 11, 7}, {12, 7, any, 7}, {13, 7, any, any}, {14, 7, 7, 7},
            {15, 7, 4, 7}, {16, 7, 7, 7}, {17, 7, 7, 7}, {18, 7, 4, any}, {42, 7, 7, any}, {44, 3, 7, 7},
            {46, 7, 7, any}, {47, 7, 7, any}, {48, 7, 7, 14}, {48, 7, 7, 16}, {49, 7, 7, 25}, {50, 7, 7, 7},
            {51, 7, 0, 7}, {51, 3, 1, 7}, {51, 3, 2, 7}, {51, 7, 3, 7}, {51, 7, 4, 7}, {51, 7, 5, 7},
            {51, 7, 8, 7}, {52, 7, 4, 7}, {52, 7, 6, 7}, {52, 7, 8, 7}, {53, 7, 7, 7}, {54, 3, 7, any},
            {55, 7, 7, any}, {56, 7, 7, 7}, {57, 3, 7, any}, {58, any, -1, any}, {58, any, 20, any},
            {58, any, 29, any}, {59, 39, any, any}, {60, 39, 7, 3}, {61, 39, 7, any}, {62, 5, any, any},
            {63, any, any, any}, {64, any, 7, any}, {65, any, 7, any}};
        for (int[] act : good) {
            MachineWitness x = new MachineWitness();
            Check.due("good act " + act[0] + " " + act[1] + " " + act[2] + " " + act[3],
                    x.act(0, act[0], act[1], act[2], act[3]), 0);
        }
    }

    private static void badActs() {
        int[][] bad = {
            {-1, 0, 0, 0}, {19, 0, 0, 0}, {66, 0, 0, 0}, {LEAST_INT, 0, 0, 0}, {MOST_INT, 0, 0, 0}, {0, 8, 0, 0},
            {0, -1, 0, 0}, {1, 4, 0, 0}, {1, 0, 0, 61}, {1, 0, 0, -61}, {2, 4, 0, 0}, {2, 0, 0, 61}, {3, 8, 0, 0},
            {3, 0, 12, 0}, {3, 0, -1, 0}, {3, 0, 0, 8}, {4, 0, 12, 0}, {4, 0, 0, 8}, {5, 4, 0, 0}, {5, 0, 8, 0},
            {5, 0, 0, 4}, {6, 4, 0, 0}, {6, 0, 8, 0}, {6, 0, 0, 4}, {7, 4, 0, 0}, {7, 0, 6, 0}, {7, 0, 0, 4},
            {8, 4, 0, 0}, {8, 0, 6, 0}, {8, 0, -1, 0}, {9, 8, 0, 0}, {9, 0, 4, 0}, {9, 0, 0, 4}, {10, 0, 4, 0},
            {10, 0, 0, 4}, {11, 0, 12, 0}, {11, 0, -1, 0}, {11, 4, 0, 0}, {11, 0, 0, 8}, {11, 8, 1, 0},
            {11, 0, 1, 4}, {11, 0, 2, 4}, {11, 4, 3, 0}, {11, 0, 4, 4}, {11, 0, 5, 4}, {11, 4, 6, 0}, {11, 0, 6, 4},
            {11, 4, 7, 0}, {11, 0, 7, 4}, {11, 8, 8, 0}, {11, 0, 11, 8}, {12, 8, 0, 0}, {12, 0, 0, 8},
            {13, 8, 0, 0}, {14, 0, 8, 0}, {14, 0, 0, 8}, {14, 8, 0, 0}, {15, 0, 5, 0}, {16, 0, 8, 0}, {16, 0, 0, 8},
            {17, 8, 0, 0}, {18, 0, 5, 0}, {18, 8, 0, 0}, {20, 8, 0, 0}, {20, 0, 8, 0}, {20, 0, 0, 8}, {26, 4, 0, 0},
            {27, 4, 0, 0}, {28, 8, 0, 0}, {34, 4, 0, 0}, {35, 4, 0, 0}, {36, 8, 0, 0}, {38, 0, 8, 0}, {41, 0, 0, 8},
            {42, 8, 0, 0}, {42, 0, 8, 0}, {43, 0, 0, 8}, {44, 4, 0, 0}, {45, 8, 0, 0}, {46, 8, 0, 0}, {46, 0, 8, 0},
            {47, 8, 0, 0}, {48, 0, 0, 15}, {48, 0, 0, 26}, {48, 0, 0, -1}, {49, 0, 0, 15}, {49, 0, 8, 0},
            {50, 0, 0, 8}, {51, 0, 9, 0}, {51, 0, -1, 0}, {51, 4, 1, 0}, {51, 4, 2, 0}, {51, 8, 3, 0}, {51, 0, 0, 8},
            {52, 0, 5, 0}, {52, 0, 9, 0}, {52, 4, 1, 0}, {52, 8, 8, 0}, {53, 0, 0, 8}, {54, 4, 0, 0}, {55, 0, 8, 0},
            {56, 0, 0, 8}, {57, 4, 0, 0}, {58, 0, 0, 0}, {58, 0, 19, 0}, {58, 0, 30, 0}, {58, 0, -2, 0},
            {59, 40, 0, 0}, {59, -1, 0, 0}, {60, 40, 0, 0}, {60, 0, 8, 0}, {60, 0, 0, 4}, {60, 0, 0, -1},
            {61, 40, 0, 0}, {61, 0, 8, 0}, {62, 6, 0, 0}, {62, -1, 0, 0}, {64, 0, 8, 0}, {65, 0, -1, 0}};
        MachineWitness x = new MachineWitness();
        for (int[] act : bad) {
            Check.due("bad act " + act[0] + " " + act[1] + " " + act[2] + " " + act[3],
                    x.act(0, act[0], act[1], act[2], act[3]), -1);
        }
        Check.due("bad acts change nothing", x.count(1), 0);
    }

    private static void handlers() {
        MachineWitness x = new MachineWitness();
        Check.due("handler", x.handler(0, 0, 40, -1, 39), 1);
        Check.due("handler", x.handler(0, 39, 40, 1, 0), 2);
        Check.due("handler", x.handler(0, 0, 1, 10, 0), 3);
        Check.due("handler", x.handler(0, 0, 1, 20, 0), 4);
        Check.due("handler", x.handler(0, 0, 1, 29, 0), 5);
        int[][] bad = {
            {-1, 0, 1, 1, 0}, {6, 0, 1, 1, 0}, {0, -1, 1, 1, 0}, {0, 1, 1, 1, 0}, {0, 2, 1, 1, 0}, {0, 0, 41, 1, 0},
            {0, 0, 1, 0, 0}, {0, 0, 1, 11, 0}, {0, 0, 1, 19, 0}, {0, 0, 1, 30, 0}, {0, 0, 1, -2, 0},
            {0, 0, 1, 1, -1}, {0, 0, 1, 1, 40}, {0, LEAST_INT, MOST_INT, 1, 0}};
        for (int[] h : bad) {
            Check.due("bad handler", x.handler(h[0], h[1], h[2], h[3], h[4]), -1);
        }
        Check.due("handler 6", x.handler(0, 0, 1, 5, 0), 6);
        Check.due("handler FULL", x.handler(0, 0, 1, 5, 0), -3);
        Check.due("handler BAD before FULL", x.handler(0, 0, 0, 5, 0), -1);
        Check.due("another program's", x.handler(1, 0, 1, 5, 0), 1);
    }

    private static void emptyPrograms() {
        MachineWitness x = Script.with(0, 63, 0, 0, 0, 58, 0, 21, 0);
        x.handler(0, 0, 40, -1, 0);
        Check.due("empty", x.empty(0), 2);
        Check.due("empty again", x.empty(0), 0);
        Check.due("its handlers are gone", x.handler(0, 0, 40, 20, 0), 1);
        Check.due("empty BAD", x.empty(-1), -1);
        Check.due("empty BAD", x.empty(6), -1);
        x.start(2, 3);
        Check.due("empty STATE", x.empty(0), -2);
        Check.due("empty BAD before STATE", x.empty(6), -1);
        x.turn(2, 1);
        Check.due("empty behind its end", x.empty(0), 0);
    }

    private static void starts() {
        MachineWitness x = Script.with(1, 0, 0, 4, 0);
        Check.due("start", x.start(0, 1), 1);
        Check.due("start STATE", x.start(0, 1), -2);
        Check.due("start BAD before STATE", x.start(0, 6), -1);
        Check.due("start BAD", x.start(3, 0), -1);
        Check.due("start BAD", x.start(-1, 0), -1);
        Check.due("start BAD", x.start(1, -1), -1);
        Check.due("another thread", x.start(1, 1), 1);
        Check.due("threads under way", x.count(7), 2);
        Check.due("turn", x.turn(0, 1), 0);
        Check.due("started again", x.start(0, 1), 1);
        Check.due("registers stay", x.number(0, 0), 4);
        Check.due("the other one's are its own", x.number(1, 0), 0);
    }

    private static void counts() {
        MachineWitness x = new MachineWitness();
        for (int p = 0; p < 6; p++) {
            for (int k = 0; k <= p; k++) {
                x.act(p, 18, 0, 0, 0);
            }
        }
        for (int what = 1; what <= 6; what++) {
            Check.due("count " + what, x.count(what), what);
        }
        x.start(0, 3);
        Check.due("under way", x.count(7), 1);
        x.turn(0, 500);
        Check.due("things", x.count(0), 4);
        Check.due("under way no more", x.count(7), 0);
        for (int what : new int[] {-1, 8, LEAST_INT, MOST_INT}) {
            Check.due("count BAD", x.count(what), -1);
        }
    }

    private static void clears() {
        MachineWitness x = Script.with(0, 18, 1, 3, 0, 0, 2, 9, 0, 1, 1, 5, 0, 2, 1, 5, 0, 52, 2, 8, 1, 55, 3, 1, 0,
                64, 0, 1, 0, 14, 3, 4, 2, 58, 0, 23, 0, 63, 0, 0, 0);
        x.handler(0, 0, 40, -1, 9);
        x.start(0, 0);
        Check.due("before clear", x.turn(0, 9), 1);
        x.start(1, 1);
        Check.due("clear", x.clear(), 2);
        dueNew("cleared", x);
        Check.due("clear again", x.clear(), 0);
        Check.due("handlers are gone", x.handler(0, 0, 40, -1, 9), 1);
        Check.due("made anew", Script.run(x, 0, 18, 1, 3, 0), 0);
        for (int b = 0; b <= 8; b++) {
            Check.due("a new object's field " + b, x.field(0, b), b == 3 || b == 4 ? -1 : 0);
        }
        Check.due("a new object's lock", x.thing(0, 2), -1);
        Check.due("a new object's locks", x.thing(0, 3), 0);
    }
}
