/** Promises 1, 3 to 5, 17 and 18: each number's last value that is taken and the first that is refused; full, empty. */
public final class CallBoundsTest {
    private static final int L = Integer.MIN_VALUE, M = Integer.MAX_VALUE;
    private static final int BAD = -1, STATE = -2, FULL = -3;

    public static void main(String[] args) {
        newObject();
        calls512();
        handlerPrograms();
        handlerPlaces();
        handlerFailures();
        sixHandlers();
        handlerRefusalsChangeNothing();
        emptyPrograms();
        emptyTakesHandlers();
        emptyState();
        emptyRefusalsChangeNothing();
        startNumbers();
        startState();
        startRefusalsChangeNothing();
        countNumbers();
        countEdges();
        clearEmptyAndFull();
        clearUnderWay();
        clearedThings();
        clearTakesHandlers();
        Check.end();
    }

    private static void dueNew(String when, Witness x) {
        for (java.util.Map.Entry<String, Long> shown : x.shown().entrySet()) {
            boolean none = shown.getKey().matches("hold.*|told\\(., [346]\\)");
            Check.due(when + ": " + shown.getKey(), shown.getValue(), none ? -1 : 0);
        }
    }

    private static void newObject() {
        Witness x = new Witness();
        dueNew("new", x);
        for (int s = 0; s <= 2; s++) {
            Check.due("no thread under way", x.turn(s, 1), STATE);
        }
        Check.due("no things", x.thing(0, 0), -2);
        Check.due("no items", x.item(0, 0), Long.MIN_VALUE);
        Check.due("no fields", x.field(0, 0), Long.MIN_VALUE);
        for (int program = 0; program <= 5; program++) {
            Check.due("no acts", x.empty(program), 0);
            Check.due("the first act", x.act(program, 63, 0, 0, 0), 0);
            Check.due("the first handler", x.handler(program, 0, 1, -1, 0), 1);
        }
    }

    /** "An object is used for at most 512 calls": the 512th is answered as the first, all turns having been long ones. */
    private static void calls512() {
        Witness x = new Witness();
        x.add(0, 64, 0, 0, 0, 55, 0, 0, 0, 59, 0, 0, 0);
        Check.due("an object", x.run(0, 18, 0, 3, 0), 0);
        x.start(0, 0);
        int turns = Witness.MOST_CALLS - 4 - x.calls();
        int acts = turns * 500;
        int counted = (acts + 1) / 3;
        int trace = 0;
        for (int k = 0; k < counted; k++) {
            trace = 31 * (31 * (31 * (31 * trace + 11) + 10) + 9) + 9;
        }
        for (int k = 0; k < turns; k++) {
            Check.due("turn", x.turn(0, 500), 1);
        }
        Check.due("call 509: acts", x.told(0, 0), 1 + acts);
        Check.due("call 510: locks", x.thing(0, 3), (acts + 2) / 3);
        Check.due("call 511: tally", x.field(0, 5), 2 * counted);
        Check.due("call 512: trace", x.trace(), trace);
        Check.due("512 calls", x.calls(), 512);
    }

    private static void handlerPrograms() {
        Witness x = new Witness();
        for (int program : new int[] {L, -1, 6, M}) {
            Check.due("handler of program " + program, x.handler(program, 0, 1, -1, 0), BAD);
        }
        Check.due("handler of program 0", x.handler(0, 0, 1, -1, 0), 1);
        Check.due("handler of program 5", x.handler(5, 0, 1, -1, 0), 1);
    }

    private static void dueHandler(int from, int to, int failure, int place, int want) {
        Witness x = new Witness();
        String call = "handler(0, " + from + ", " + to + ", " + failure + ", " + place + ")";
        Check.due(call, x.handler(0, from, to, failure, place), want);
        Check.due(call + ": the next one", x.handler(0, 0, 1, -1, 0), want == 1 ? 2 : 1);
    }

    /** "0 <= from < to <= 40", and the PLACE 0 .. 39; no ACT needs to be there. */
    private static void handlerPlaces() {
        int[][] taken = {{0, 1, 0}, {0, 40, 0}, {39, 40, 0}, {38, 40, 39}, {38, 39, 39}, {5, 6, 0}};
        for (int[] h : taken) {
            dueHandler(h[0], h[1], -1, h[2], 1);
        }
        int[][] refused = {
            {-1, 1, 0}, {-1, 0, 0}, {L, 1, 0}, {0, 0, 0}, {5, 5, 0}, {6, 5, 0}, {40, 40, 0}, {39, 39, 0}, {0, 41, 0},
            {39, 41, 0}, {40, 41, 0}, {0, M, 0}, {L, M, 0}, {M, L, 0}, {M, M, 0}, {0, -1, 0}, {0, 1, -1}, {0, 1, 40},
            {0, 1, L}, {0, 1, M}};
        for (int[] h : refused) {
            dueHandler(h[0], h[1], -1, h[2], BAD);
        }
    }

    /** "the FAILURE not -1, 1 to 10, 20 to 29": SPENT (11) and 0 are none that a HANDLER takes. */
    private static void handlerFailures() {
        for (int failure = -3; failure <= 32; failure++) {
            boolean taken = failure == -1 || (failure >= 1 && failure <= 10) || (failure >= 20 && failure <= 29);
            dueHandler(0, 1, failure, 0, taken ? 1 : BAD);
        }
        dueHandler(0, 1, L, 0, BAD);
        dueHandler(0, 1, M, 0, BAD);
    }

    private static void sixHandlers() {
        Witness x = new Witness();
        for (int program = 0; program <= 5; program++) {
            for (int many = 1; many <= 6; many++) {
                Check.due("handler", x.handler(program, 0, 1, -1, 0), many);
            }
            Check.due("handler 7 of program " + program, x.handler(program, 0, 1, -1, 0), FULL);
        }
        Check.due("BAD before FULL: from", x.handler(0, -1, 1, -1, 0), BAD);
        Check.due("BAD before FULL: to", x.handler(0, 0, 41, -1, 0), BAD);
        Check.due("BAD before FULL: failure", x.handler(0, 0, 1, 11, 0), BAD);
        Check.due("BAD before FULL: place", x.handler(0, 0, 1, -1, 40), BAD);
        Check.due("handlers are no acts", x.count(1), 0);
        Check.due("empty", x.empty(0), 0);
        Check.due("room again", x.handler(0, 0, 1, -1, 0), 1);
    }

    /** Six HANDLERS none of which fits but the last: a seventh would, had it been taken or put in another's place. */
    private static void handlerRefusalsChangeNothing() {
        Twins.unchanged("handlers refused", x -> {
            x.add(0, 58, 0, 25, 0, 0, 0, 1, 0, 63, 0, 0, 0, 0, 0, 2, 0);
            for (int k = 0; k < 5; k++) {
                x.handler(0, 0, 1, 20 + k, 1);
            }
            x.handler(0, 0, 1, 25, 3);
        }, x -> {
            Check.due("FULL", x.handler(0, 0, 1, 25, 1), FULL);
            Check.due("FULL", x.handler(0, 0, 40, -1, 1), FULL);
            Check.due("BAD", x.handler(0, 0, 41, -1, 1), BAD);
        }, x -> {
            x.start(0, 0);
            Check.due("the sixth takes it", x.turn(0, 2), 0);
            Check.due("N 0", x.number(0, 0), 2);
        });
        Twins.unchanged("handlers refused as BAD", x -> x.add(0, 58, 0, 25, 0, 0, 0, 1, 0), x -> {
            Check.due("BAD", x.handler(0, 0, 1, 30, 1), BAD);
            Check.due("BAD", x.handler(0, 0, 0, -1, 1), BAD);
            Check.due("BAD", x.handler(0, 0, 1, -1, 40), BAD);
            Check.due("BAD", x.handler(6, 0, 1, -1, 1), BAD);
        }, x -> {
            x.start(0, 0);
            Check.due("none takes it", x.turn(0, 2), -35);
        });
    }

    private static void emptyPrograms() {
        Witness x = new Witness();
        for (int program : new int[] {L, -1, 6, M}) {
            Check.due("empty(" + program + ")", x.empty(program), BAD);
        }
        for (int program = 0; program <= 5; program += 5) {
            Check.due("none", x.empty(program), 0);
            x.act(program, 63, 0, 0, 0);
            Check.due("one", x.empty(program), 1);
            for (int k = 0; k < 40; k++) {
                x.act(program, 63, 0, 0, 0);
            }
            Check.due("all", x.empty(program), 40);
            Check.due("none are left", x.empty(program), 0);
            Check.due("acts", x.count(1 + program), 0);
        }
        x.act(1, 63, 0, 0, 0);
        x.act(3, 63, 0, 0, 0);
        Check.due("another one", x.empty(2), 0);
        Check.due("its neighbours stay", x.count(2), 1);
        Check.due("its neighbours stay", x.count(4), 1);
    }

    /** "no ACTS, no HANDLERS": none of those that there were takes a FAILURE any more, but the new ones do. */
    private static void emptyTakesHandlers() {
        for (int handlers = 1; handlers <= 6; handlers += 5) {
            Witness x = new Witness();
            for (int k = 0; k < handlers; k++) {
                x.handler(0, 0, 40, -1, 1);
            }
            x.empty(0);
            x.add(0, 58, 0, 20, 0, 0, 0, 1, 0);
            x.start(0, 0);
            Check.due("none takes it", x.turn(0, 1), -30);
            x.empty(0);
            Check.due("a new one", x.handler(0, 0, 1, 21, 1), 1);
            x.add(0, 58, 0, 20, 0, 0, 0, 1, 0);
            x.start(0, 0);
            Check.due("the new one does not take it", x.turn(0, 1), -30);
            Check.due("another one", x.handler(0, 0, 1, 20, 1), 2);
            x.start(0, 0);
            Check.due("that one does", x.turn(0, 1), 1);
        }
    }

    /** "STATE: some THREAD is under way": any of the three, with another PROGRAM, or behind a turn(). */
    private static void emptyState() {
        for (int s = 0; s <= 2; s++) {
            Witness x = new Witness();
            x.add(0, 0, 0, 1, 0, 0, 0, 2, 0);
            x.start(s, 0);
            Check.due("STATE", x.empty(0), STATE);
            Check.due("STATE of another program", x.empty(1), STATE);
            Check.due("BAD before STATE", x.empty(6), BAD);
            Check.due("BAD before STATE", x.empty(-1), BAD);
            x.turn(s, 1);
            Check.due("STATE behind a turn", x.empty(0), STATE);
            x.turn(s, 1);
            Check.due("behind its end", x.empty(0), 2);
        }
    }

    private static void emptyRefusalsChangeNothing() {
        Twins.unchanged("empty refused", x -> {
            x.add(0, 58, 0, 25, 0, 0, 0, 7, 0);
            x.handler(0, 0, 1, -1, 1);
            x.start(0, 0);
        }, x -> {
            Check.due("STATE", x.empty(0), STATE);
            Check.due("BAD", x.empty(6), BAD);
        }, x -> Check.due("all is there", x.turn(0, 2), 0));
    }

    private static void startNumbers() {
        Witness x = new Witness();
        for (int s : new int[] {L, -1, 3, M}) {
            Check.due("start(" + s + ", 0)", x.start(s, 0), BAD);
        }
        for (int program : new int[] {L, -1, 6, M}) {
            Check.due("start(0, " + program + ")", x.start(0, program), BAD);
        }
        Check.due("none is under way", x.count(7), 0);
        Check.due("start(0, 5)", x.start(0, 5), 1);
        Check.due("start(2, 0)", x.start(2, 0), 1);
        Check.due("start(1, 0)", x.start(1, 0), 1);
        Check.due("all are under way", x.count(7), 3);
    }

    private static void startState() {
        for (int s = 0; s <= 2; s++) {
            Witness x = new Witness();
            Check.due("start", x.start(s, 0), 1);
            Check.due("STATE", x.start(s, 0), STATE);
            Check.due("STATE with another program", x.start(s, 5), STATE);
            Check.due("BAD before STATE", x.start(s, 6), BAD);
            Check.due("BAD before STATE", x.start(s, -1), BAD);
            Check.due("another thread", x.start((s + 1) % 3, 0), 1);
            Check.due("its end", x.turn(s, 1), 0);
            Check.due("start again", x.start(s, 0), 1);
        }
    }

    private static void startRefusalsChangeNothing() {
        Twins.unchanged("start refused", x -> {
            x.add(0, 0, 0, 1, 0, 3, 1, 0, 0, 0, 2, 9, 0);
            x.add(1, 0, 3, 8, 0);
            x.start(1, 0);
            x.turn(1, 2);
        }, x -> {
            Check.due("STATE", x.start(1, 0), STATE);
            Check.due("STATE", x.start(1, 1), STATE);
            Check.due("BAD", x.start(1, 6), BAD);
            Check.due("BAD", x.start(3, 1), BAD);
            Check.due("BAD", x.start(0, -1), BAD);
        }, x -> {
            Check.due("the third act ends it", x.turn(1, 500), 0);
            Check.due("acts", x.told(1, 0), 3);
        });
    }

    private static void countNumbers() {
        Witness x = new Witness();
        for (int what : new int[] {L, -2, -1, 8, 9, M}) {
            Check.due("count(" + what + ")", x.count(what), BAD);
        }
        Check.due("count(0)", x.count(0), 0);
        Check.due("count(7)", x.count(7), 0);
        x.add(0, 63, 0, 0, 0);
        x.add(5, 63, 0, 0, 0, 63, 0, 0, 0);
        int[] due = {0, 1, 0, 0, 0, 0, 2, 0};
        for (int what = 0; what <= 7; what++) {
            Check.due("count(" + what + ")", x.count(what), due[what]);
        }
    }

    private static void countEdges() {
        Witness x = new Witness();
        x.makeThings(160);
        Check.due("160 things", x.count(0), 160);
        Check.due("not one more", x.run(0, 18, 0, 0, 0), -19);
        Check.due("160 things", x.count(0), 160);
        for (int s = 0; s <= 2; s++) {
            x.start(s, 0);
            Check.due("threads under way", x.count(7), s + 1);
        }
        for (int s = 0; s <= 2; s++) {
            x.turn(s, 1);
            Check.due("threads under way", x.count(7), 2 - s);
        }
    }

    private static void clearEmptyAndFull() {
        Witness x = new Witness();
        Check.due("clear of none", x.clear(), 0);
        x.makeThings(1);
        Check.due("clear of one", x.clear(), 1);
        x.makeThings(160);
        Check.due("clear of all", x.clear(), 160);
        Check.due("clear of none", x.clear(), 0);
        dueNew("cleared", x);
        x.makeThings(160);
        Check.due("as many again", x.clear(), 160);
    }

    /** All that can be there is: full PROGRAMS and HANDLERS, LOCKS, registers, FAILURES, CALLS under way. */
    private static void clearUnderWay() {
        Witness x = new Witness();
        x.add(0, 0, 0, 4, 0, 1, 0, 4, 0, 2, 0, 4, 0, 14, 0, 4, 0, 64, 0, 0, 0, 18, 7, 3, 0, 55, 5, 7, 0, 58, 0, 20, 0,
                62, 0, 0, 0);
        for (int k = 9; k < 40; k++) {
            x.add(0, 63, 0, 0, 0);
        }
        for (int k = 0; k < 6; k++) {
            x.handler(0, 0, 40, -1, 8);
        }
        for (int s = 0; s <= 2; s++) {
            x.start(s, 0);
            Check.due("under way", x.turn(s, 8 + 9), 1);
        }
        Check.due("things", x.clear(), 12);
        dueNew("cleared", x);
        for (int s = 0; s <= 2; s++) {
            Check.due("not under way", x.turn(s, 1), STATE);
        }
        Check.due("a place", x.act(0, 18, 7, 3, 0), 0);
        Check.due("a handler", x.handler(0, 0, 1, 20, 0), 1);
        Check.due("start", x.start(0, 0), 1);
        Check.due("a new thing", x.turn(0, 1), 0);
        for (int b = 0; b <= 8; b++) {
            Check.due("field " + b, x.field(0, b), b == 3 || b == 4 ? -1 : 0);
        }
        Check.due("not locked", x.thing(0, 2), -1);
        Check.due("not locked", x.thing(0, 3), 0);
    }

    /** THINGS that had ITEMS, fields and LOCKS: those that are made in their place have none. */
    private static void clearedThings() {
        Witness x = new Witness();
        x.add(0, 0, 0, 12, 0, 0, 1, 11, 0, 1, 0, 5, 0, 2, 0, 5, 0, 14, 0, 5, 0, 33, 0, 0, 1, 33, 0, 0, 2,
                14, 1, 7, 0, 35, 0, 1, 1, 35, 0, 1, 2, 18, 3, 3, 0, 14, 5, 4, 0, 15, 4, 0, 0, 39, 3, 4, 1, 39, 3, 4, 2,
                52, 0, 0, 3, 52, 0, 1, 3, 52, 0, 2, 3, 52, 3, 3, 3, 52, 5, 4, 3, 52, 0, 6, 3, 52, 0, 7, 3, 52, 0, 8, 3,
                55, 7, 3, 0, 64, 0, 0, 0, 64, 0, 1, 0, 64, 0, 3, 0, 64, 0, 4, 0, 63, 0, 0, 0);
        // by THREAD 2: those made later are of THREAD 0, which would let go of its own as it ends
        x.start(2, 0);
        Check.due("filled", x.turn(2, 28), 1);
        Check.due("locked", x.thing(4, 2), 2);
        Check.due("a number", x.item(0, 11), 12);
        Check.dueBits("a double", x.item(1, 11), 5);
        Check.due("a part", x.item(4, 11), 2);
        Check.due("things", x.clear(), 5);
        x.holdThing(0, 5, 12);
        x.holdThing(1, 7, 12);
        x.holdThing(2, 19, 0);
        x.holdThing(3, 4, 12);
        x.holdThing(4, 8, 12);
        for (int t = 0; t <= 4; t++) {
            Check.due("not locked", x.thing(t, 2), -1);
            Check.due("not locked", x.thing(t, 3), 0);
            for (int i = 0; i < 12; i++) {
                Check.due("item " + i + " of " + t, x.item(t, i), t == 2 ? Long.MIN_VALUE : t == 4 ? -1 : 0);
            }
        }
        for (int b = 0; b <= 8; b++) {
            Check.due("field " + b, x.field(2, b), b == 3 || b == 4 ? -1 : 0);
        }
    }

    private static void clearTakesHandlers() {
        Witness x = new Witness();
        for (int program = 0; program <= 5; program++) {
            x.handler(program, 0, 40, -1, 1);
        }
        x.clear();
        for (int program = 0; program <= 5; program++) {
            x.add(program, 58, 0, 20, 0, 0, 0, 1, 0);
            x.start(0, program);
            Check.due("none takes it", x.turn(0, 1), -30);
            Check.due("the first", x.handler(program, 0, 1, -1, 1), 1);
        }
    }
}
