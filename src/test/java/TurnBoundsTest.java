/** Promise 6, paragraph 3 and ACTS 58 to 65: how many ACTS, FAILURES, PROGRAMS, LOCKS; where HANDLERS begin and end. */
public final class TurnBoundsTest {
    private static final int L = Integer.MIN_VALUE, M = Integer.MAX_VALUE;
    private static final int GOES_ON = 1, ENDED = 0, BAD = -1, STATE = -2, SPENT = -21;

    public static void main(String[] args) {
        turnNumbers();
        turnState();
        turnRefusalsChangeNothing();
        exactlyNActs();
        failedActsAreActs();
        endsAtOnce();
        noActs();
        fortyActs();
        jumpsBehindTheLastAct();
        jumpTests();
        failuresOfOneTurn();
        spentEndsWhateverHandlers();
        spentCountsNoCalls();
        spentInACall();
        spentLetsGo();
        othersLocksStay();
        handlerEdges();
        firstHandlerThatFits();
        handlersByFailure();
        handlerPlaces();
        raised();
        eightPrograms();
        eightProgramsOfEachThread();
        eightEndAtOnce();
        roomIsHandled();
        callsThatFail();
        emptyProgramsCalled();
        ends();
        locks();
        locksChangeNothing();
        Check.end();
    }

    private static void dueTold(String when, Witness x, int thread, int... want) {
        for (int what = 0; what < want.length; what++) {
            Check.due(when + ": told " + what, x.told(thread, what), want[what]);
        }
    }

    /** PROGRAM 0 goes on without an end. */
    private static Witness endlessly() {
        Witness x = new Witness();
        x.add(0, 59, 0, 0, 0);
        return x;
    }

    private static void turnNumbers() {
        Witness x = endlessly();
        x.start(0, 0);
        for (int n : new int[] {L, -1, 0, 501, 502, M}) {
            Check.due("turn(0, " + n + ")", x.turn(0, n), BAD);
        }
        Check.due("nothing done", x.told(0, 0), 0);
        Check.due("turn(0, 1)", x.turn(0, 1), GOES_ON);
        Check.due("one act", x.told(0, 0), 1);
        Check.due("turn(0, 500)", x.turn(0, 500), GOES_ON);
        Check.due("500 acts", x.told(0, 0), 501);
        for (int s : new int[] {L, -1, 3, M}) {
            Check.due("turn(" + s + ", 1)", x.turn(s, 1), BAD);
        }
        x.start(2, 0);
        Check.due("turn(2, 2)", x.turn(2, 2), GOES_ON);
        Check.due("two acts", x.told(2, 0), 2);
    }

    private static void turnState() {
        for (int s = 0; s <= 2; s++) {
            Witness x = endlessly();
            Check.due("not under way", x.turn(s, 1), STATE);
            Check.due("not under way", x.turn(s, 500), STATE);
            Check.due("BAD before STATE", x.turn(s, 0), BAD);
            Check.due("BAD before STATE", x.turn(s, 501), BAD);
            x.start((s + 1) % 3, 0);
            Check.due("another one is", x.turn(s, 1), STATE);
            x.start(s, 1);
            Check.due("ended", x.turn(s, 1), ENDED);
            Check.due("not under way any more", x.turn(s, 1), STATE);
        }
    }

    private static void turnRefusalsChangeNothing() {
        Twins.unchanged("turns refused", x -> {
            x.add(0, 18, 0, 0, 0, 64, 0, 0, 0, 58, 0, 22, 0, 0, 3, 5, 0, 0, 4, 6, 0);
            x.handler(0, 2, 3, -1, 3);
            x.start(1, 0);
            x.turn(1, 3);
        }, x -> {
            Check.due("BAD", x.turn(1, 0), BAD);
            Check.due("BAD", x.turn(1, 501), BAD);
            Check.due("BAD", x.turn(3, 1), BAD);
            Check.due("BAD", x.turn(-1, 1), BAD);
            Check.due("STATE", x.turn(0, 1), STATE);
        }, x -> Check.due("goes on", x.turn(1, 1), GOES_ON));
    }

    private static void exactlyNActs() {
        for (int n = 1; n <= 500; n += n < 5 ? 1 : 99) {
            Witness x = endlessly();
            x.start(0, 0);
            x.turn(0, n);
            Check.due("acts of a turn of " + n, x.told(0, 0), n);
        }
    }

    /** "n ACTS at most (those that FAILED too)". */
    private static void failedActsAreActs() {
        Witness x = new Witness();
        x.add(0, 58, 0, 20, 0, 0, 0, 1, 0, 59, 0, 0, 0);
        x.handler(0, 0, 1, 20, 1);
        x.start(0, 0);
        Check.due("the one that fails", x.turn(0, 1), GOES_ON);
        dueTold("failed", x, 0, 0, 1, 20, 0, 0, 1, -1, 1);
        Check.due("N 0", x.number(0, 0), 0);
        Check.due("the next", x.turn(0, 1), GOES_ON);
        Check.due("N 0", x.number(0, 0), 1);
        Check.due("three more", x.turn(0, 3), GOES_ON);
        dueTold("three more", x, 0, 3, 2, 20, 0, 0, 1, -1, 1);
    }

    /** "(An end behind the last ACT is told at once.)" */
    private static void endsAtOnce() {
        for (int n = 1; n <= 4; n++) {
            Witness x = new Witness();
            x.add(0, 0, 0, 1, 0, 0, 0, 2, 0, 0, 0, 3, 0);
            x.start(0, 0);
            Check.due("a turn of " + n, x.turn(0, n), n < 3 ? GOES_ON : ENDED);
            Check.due("under way", x.told(0, 7), n < 3 ? 1 : 0);
            Check.due("programs", x.told(0, 5), n < 3 ? 1 : 0);
            Check.due("acts", x.told(0, 0), Math.min(n, 3));
        }
        Witness y = new Witness();
        y.add(0, 0, 0, 1, 0, 58, 0, 20, 0);
        y.start(0, 0);
        Check.due("one", y.turn(0, 1), GOES_ON);
        Check.due("one that fails", y.turn(0, 1), -30);
    }

    private static void noActs() {
        Witness x = new Witness();
        Check.due("start", x.start(0, 0), 1);
        Check.due("under way", x.told(0, 7), 1);
        Check.due("one program", x.told(0, 5), 1);
        Check.due("threads", x.count(7), 1);
        Check.due("no acts", x.turn(0, 1), ENDED);
        dueTold("no acts", x, 0, 0, 0, 0, -1, -1, 0, -1, 0);
        Check.due("threads", x.count(7), 0);
    }

    private static void fortyActs() {
        for (int n = 39; n <= 41; n++) {
            Witness x = new Witness();
            x.add(0, 0, 1, 1, 0);
            for (int place = 1; place < 40; place++) {
                x.add(0, 3, 0, 0, 1);
            }
            x.start(0, 0);
            Check.due("a turn of " + n, x.turn(0, n), n < 40 ? GOES_ON : ENDED);
            Check.due("N 0", x.number(0, 0), Math.min(n, 40) - 1);
        }
    }

    /** PLACE 39 is there with 40 ACTS; with 39 it is behind the last one. */
    private static void jumpsBehindTheLastAct() {
        for (int op = 59; op <= 61; op++) {
            for (int acts = 1; acts <= 3; acts++) {
                Witness x = new Witness();
                x.add(0, op, 2, 0, 0);
                for (int place = 1; place < acts; place++) {
                    x.add(0, 0, 5, place, 0);
                }
                x.start(0, 0);
                Check.due("to place 2 of " + acts, x.turn(0, 1), acts > 2 ? GOES_ON : ENDED);
                Check.due("counted", x.told(0, 0), 1);
            }
            for (int acts = 39; acts <= 40; acts++) {
                Witness x = new Witness();
                x.add(0, op, 39, 0, 0);
                for (int place = 1; place < acts; place++) {
                    x.add(0, 0, 5, place, 0);
                }
                x.start(0, 0);
                Check.due("to place 39 of " + acts, x.turn(0, 500), ENDED);
                Check.due("N 5", x.number(0, 5), acts == 40 ? 39 : 0);
            }
        }
        Witness x = new Witness();
        x.add(0, 0, 0, 1, 0, 59, 0, 0, 0);
        x.start(0, 0);
        Check.due("back to place 0", x.turn(0, 3), GOES_ON);
        Check.due("acts", x.told(0, 0), 3);
    }

    /** "(c = 0) 0, (1) not 0, (2) below 0, (3) above 0": of the longs beside 0, the least and the greatest. */
    private static void jumpTests() {
        long[] values = {Long.MIN_VALUE, -(1L << 32), -1, 0, 1, 1L << 32, Long.MAX_VALUE};
        for (int c = 0; c <= 3; c++) {
            for (long value : values) {
                boolean so = c == 0 ? value == 0 : c == 1 ? value != 0 : c == 2 ? value < 0 : value > 0;
                Witness x = new Witness();
                x.setNumber(7, value);
                x.add(0, 60, 2, 7, c, 0, 5, 9, 0, 63, 0, 0, 0);
                x.start(0, 0);
                Check.due("jump", x.turn(0, 500), ENDED);
                Check.due("jump by " + c + " of " + value, x.number(0, 5), so ? 0 : 9);
            }
        }
        Witness x = new Witness();
        x.add(0, 61, 2, 7, 0, 0, 5, 9, 0, 18, 7, 0, 0, 61, 5, 7, 0, 0, 6, 9, 0, 63, 0, 0, 0);
        x.start(0, 0);
        Check.due("jumps by holds", x.turn(0, 500), ENDED);
        Check.due("none", x.number(0, 5), 0);
        Check.due("one", x.number(0, 6), 9);
    }

    /** An ACT that FAILS for ever, taken by a HANDLER that goes back to it. */
    private static Witness failing(int failure) {
        Witness x = new Witness();
        x.add(0, 58, 0, failure, 0);
        x.handler(0, 0, 1, -1, 0);
        x.start(0, 0);
        return x;
    }

    /** "the 21st FAILURE of one turn()". */
    private static void failuresOfOneTurn() {
        Witness x = failing(20);
        Check.due("20 failures", x.turn(0, 20), GOES_ON);
        dueTold("20 failures", x, 0, 0, 20, 20, 0, 0, 1, -1, 1);
        Check.due("20 more, in another turn", x.turn(0, 20), GOES_ON);
        Check.due("and one", x.turn(0, 1), GOES_ON);
        dueTold("41 failures", x, 0, 0, 41, 20, 0, 0, 1, -1, 1);
        Witness y = failing(29);
        Check.due("21 failures", y.turn(0, 21), SPENT);
        dueTold("21 failures", y, 0, 0, 21, 11, 0, 0, 0, -1, 0);
        Check.due("N 7 of the 20th", y.number(0, 7), 29);
        Check.due("ended", y.turn(0, 1), STATE);
        Check.due("threads", y.count(7), 0);
        Check.due("started again", y.start(0, 0), 1);
        Check.due("20 of the new turn", y.turn(0, 20), GOES_ON);
        Check.due("the 21st at the end of a long one", y.turn(0, 500), SPENT);
        dueTold("62 failures", y, 0, 0, 21 + 20 + 21, 11, 0, 0, 0, -1, 0);
    }

    /** "the THREAD ends by that, whatever HANDLERS there are"; and by SPENT too where no HANDLER would take the 21st. */
    private static void spentEndsWhateverHandlers() {
        for (int handlers = 0; handlers <= 1; handlers++) {
            Witness x = new Witness();
            // N 1 counts down from 20; then RAISED 25 at PLACE 4, which only one of the two has a HANDLER for
            x.add(0, 58, 0, 20, 0, 3, 1, 1, 2, 60, 0, 1, 1, 58, 0, 25, 0, 0, 6, 1, 0);
            x.handler(0, 0, 1, 20, 1);
            if (handlers == 1) {
                x.handler(0, 3, 4, -1, 4);
            }
            x.run(0, 0, 1, 20, 0, 0, 2, 1, 0);
            x.start(0, 0);
            Check.due("the 21st", x.turn(0, 500), SPENT);
            Check.due("failures", x.told(0, 1), 21);
            Check.due("the latest", x.told(0, 2), 11);
            Check.due("its place", x.told(0, 4), 3);
            Check.due("N 7 is of the 20th", x.number(0, 7), 20);
            Check.due("N 6", x.number(0, 6), 0);
            Witness y = new Witness();
            y.add(0, 58, 0, 20, 0, 3, 1, 1, 2, 60, 0, 1, 1, 58, 0, 25, 0, 0, 6, 1, 0);
            y.handler(0, 0, 1, 20, 1);
            if (handlers == 1) {
                y.handler(0, 3, 4, -1, 4);
            }
            y.run(0, 0, 1, 19, 0, 0, 2, 1, 0);
            y.start(0, 0);
            Check.due("the 20th", y.turn(0, 500), handlers == 1 ? ENDED : -35);
            Check.due("N 7", y.number(0, 7), handlers == 1 ? 25 : 20);
        }
    }

    /** "(a CALL that FAILS by what FAILED in its PROGRAM counts none)": three PROGRAMS deep, one FAILURE a round. */
    private static void spentCountsNoCalls() {
        Witness x = new Witness();
        x.add(0, 62, 1, 0, 0);
        x.handler(0, 0, 1, -1, 0);
        x.add(1, 62, 2, 0, 0);
        x.add(2, 58, 0, 28, 0);
        x.start(0, 0);
        Check.due("20 rounds of two calls and a failure", x.turn(0, 60), GOES_ON);
        dueTold("20 rounds", x, 0, 40, 20, 28, 2, 0, 1, -1, 1);
        Check.due("20 more and two calls", x.turn(0, 62), GOES_ON);
        dueTold("40 rounds", x, 0, 82, 40, 28, 2, 0, 3, -1, 1);
        Check.due("the 21st", x.turn(0, 500), SPENT);
        dueTold("the 21st", x, 0, 82 + 40, 61, 11, 2, 0, 0, -1, 0);
    }

    private static void spentInACall() {
        Witness x = new Witness();
        x.add(0, 62, 5, 0, 0, 0, 6, 1, 0);
        x.handler(0, 0, 40, -1, 1);
        x.add(5, 0, 5, 7, 0, 58, 0, 23, 0);
        x.handler(5, 1, 2, 23, 1);
        x.start(2, 0);
        Check.due("the 21st in a call", x.turn(2, 500), SPENT);
        dueTold("the 21st in a call", x, 2, 2, 21, 11, 5, 1, 0, -1, 0);
        Check.due("what was done stays", x.number(2, 5), 7);
        Check.due("no handler took it", x.number(2, 6), 0);
    }

    /** "A THREAD that ends lets go all that it LOCKS; its registers stay": by SPENT, a FAILURE, 63, the last ACT. */
    private static void spentLetsGo() {
        int[] due = {SPENT, -32, ENDED, ENDED};
        for (int how = 0; how < 4; how++) {
            Witness x = new Witness();
            x.add(0, 0, 0, 1, 0, 14, 0, 4, 0, 18, 7, 1, 0, 64, 0, 0, 0, 64, 0, 7, 0, 64, 0, 7, 0);
            if (how < 2) {
                x.add(0, 58, 0, 22, 0);
            } else {
                x.add(0, how == 2 ? 63 : 59, how == 2 ? 0 : 39, 0, 0);
            }
            if (how == 0) {
                x.handler(0, 6, 7, -1, 6);
            }
            x.start(1, 0);
            Check.due("locks", x.turn(1, 6), GOES_ON);
            Check.due("0 is locked", x.thing(0, 2), 1);
            Check.due("1 is locked twice", x.thing(1, 3), 2);
            Check.due("the end", x.turn(1, 500), due[how]);
            for (int t = 0; t <= 1; t++) {
                Check.due("let go", x.thing(t, 2), -1);
                Check.due("let go", x.thing(t, 3), 0);
            }
            Check.due("N 0", x.number(1, 0), 1);
            Check.due("T 0", x.hold(1, 0), 0);
            Check.due("T 7", x.hold(1, 7), 1);
        }
    }

    /** "lets go all that IT LOCKS": of three THREADS with a LOCK each one ends, and the others keep theirs. */
    private static void othersLocksStay() {
        for (int ending = 0; ending <= 2; ending++) {
            Witness x = new Witness();
            x.add(0, 18, 0, 0, 0, 64, 0, 0, 0, 64, 0, 0, 0, 0, 0, 1, 0);
            for (int s = 0; s <= 2; s++) {
                x.start(s, 0);
                Check.due("two locks", x.turn(s, 3), GOES_ON);
            }
            Check.due("the end of " + ending, x.turn(ending, 1), ENDED);
            for (int s = 0; s <= 2; s++) {
                Check.due("the thread of " + s, x.thing(s, 2), s == ending ? -1 : s);
                Check.due("how often " + s, x.thing(s, 3), s == ending ? 0 : 2);
            }
        }
    }

    /** "from PLACE from up to below to": the ACT at the edge and the one beside it. */
    private static void handlerEdges() {
        int[][] edges = {{0, 1}, {0, 2}, {1, 2}, {1, 3}, {2, 3}, {0, 40}, {38, 40}, {39, 40}, {38, 39}};
        for (int[] edge : edges) {
            for (int place : new int[] {0, 1, 2, 3, 37, 38, 39}) {
                Witness x = new Witness();
                for (int k = 0; k < 40; k++) {
                    int[] act = k == place ? new int[] {58, 0, 20, 0} : new int[] {0, 6, 1, 0};
                    x.add(0, act);
                }
                x.handler(0, edge[0], edge[1], 20, place == 39 ? 0 : 39);
                x.start(0, 0);
                boolean taken = edge[0] <= place && place < edge[1];
                String what = "a failure at " + place + " with a handler " + edge[0] + " to " + edge[1];
                Check.due(what, x.turn(0, place + 1), taken ? GOES_ON : -30);
                Check.due(what + ": N 7", x.number(0, 7), taken ? 20 : 0);
            }
        }
    }

    /** "in order": of six that fit the first; and the sixth, where it alone does. */
    private static void firstHandlerThatFits() {
        for (int first = 0; first < 6; first++) {
            Witness x = new Witness();
            x.add(0, 58, 0, 24, 0, 63, 0, 0, 0, 63, 0, 0, 0, 0, 0, 3, 0, 63, 0, 0, 0);
            for (int k = 0; k < 6; k++) {
                x.handler(0, k < first && k % 2 == 0 ? 1 : 0, 5, k < first && k % 2 == 1 ? 25 : k % 2 == 0 ? -1 : 24,
                        k == first ? 3 : 1);
            }
            x.start(0, 0);
            Check.due("handler " + first, x.turn(0, 2), GOES_ON);
            Check.due("N 0", x.number(0, 0), 3);
            Check.due("N 7", x.number(0, 7), 24);
        }
    }

    /** An ACT for each FAILURE that there is, behind those that it needs. */
    private static int[] actThatFails(int failure) {
        switch (failure) {
            case 1: return new int[] {42, 0, 7, 0};
            case 2: return new int[] {24, 0, 0, 0};
            case 3: return new int[] {20, 0, 0, 0};
            case 4: return new int[] {39, 2, 1, 0};
            case 5: return new int[] {14, 0, 0, 1};
            case 6: return new int[] {3, 0, 3, 0};
            case 7: return new int[] {65, 0, 0, 0};
            case 8: return new int[] {5, 0, 3, 0};
            case 9: return new int[] {14, 0, 0, 2};
            case 10: return new int[] {42, 0, 2, 0};
            default: return new int[] {58, 0, failure, 0};
        }
    }

    /** A HANDLER takes its own FAILURE (or any), and none of the others. */
    private static void handlersByFailure() {
        for (int failure = 1; failure <= 29; failure += failure == 10 ? 10 : 1) {
            for (int taken = -1; taken <= 29; taken += taken == -1 ? 2 : taken == 10 ? 10 : 1) {
                Witness x = new Witness();
                // T 0 a ROW of no ints, T 1 a ROW of a LEAF, T 2 a STONE; N 0 is 0, N 1 -1, N 2 13
                x.run(0, 14, 0, 4, 0, 0, 1, 1, 0, 15, 1, 1, 1, 18, 2, 4, 0, 0, 1, -1, 0, 0, 2, 13, 0);
                x.add(0, actThatFails(failure));
                x.add(0, 63, 0, 0, 0);
                x.handler(0, 0, 1, taken, 1);
                x.start(0, 0);
                boolean fits = taken == -1 || taken == failure;
                Check.due("failure " + failure + ", handler " + taken, x.turn(0, 1), fits ? GOES_ON : -10 - failure);
                Check.due("N 7", x.number(0, 7), fits ? failure : 0);
                Check.due("told 2", x.told(0, 2), failure);
            }
        }
    }

    /** "it goes on at its PLACE": 0, 39, and one that is behind the last ACT. */
    private static void handlerPlaces() {
        for (int acts = 39; acts <= 40; acts++) {
            Witness x = new Witness();
            x.add(0, 58, 0, 20, 0);
            for (int place = 1; place < acts; place++) {
                x.add(0, 0, 0, place, 0);
            }
            x.handler(0, 0, 1, -1, 39);
            x.start(0, 0);
            Check.due("to place 39 of " + acts, x.turn(0, 1), acts == 40 ? GOES_ON : ENDED);
            Check.due("N 7", x.number(0, 7), 20);
            Check.due("under way", x.told(0, 5), acts == 40 ? 1 : 0);
        }
        Witness x = new Witness();
        x.add(0, 0, 0, 1, 0, 58, 0, 20, 0, 0, 0, 2, 0);
        x.handler(0, 1, 2, -1, 0);
        x.start(0, 0);
        Check.due("to place 0", x.turn(0, 4), GOES_ON);
        Check.due("acts", x.told(0, 0), 2);
        Check.due("failures", x.told(0, 1), 2);
        // behind the last ACT of a PROGRAM that was CALLED: it goes on behind its CALL
        Witness y = new Witness();
        y.add(0, 62, 1, 0, 0, 0, 0, 5, 0);
        y.add(1, 58, 0, 20, 0);
        y.handler(1, 0, 1, -1, 1);
        y.start(0, 0);
        Check.due("a call and a failure", y.turn(0, 2), GOES_ON);
        Check.due("one is left", y.told(0, 5), 1);
        Check.due("behind the call", y.turn(0, 1), ENDED);
        Check.due("N 0", y.number(0, 0), 5);
    }

    /** "58 RAISED b (20 .. 29); b = -1: one that is none: NULL." */
    private static void raised() {
        for (int b = -1; b <= 29; b += b == -1 ? 21 : 1) {
            int due = b == -1 ? 1 : b;
            Witness x = new Witness();
            Check.due("58 with " + b, x.run(0, 58, 0, b, 0), -10 - due);
            dueTold("58 with " + b, x, 0, 0, 1, due, 5, 0, 0, -1, 0);
        }
    }

    /** "ROOM: 8 PROGRAMS are under way": the seventh CALL makes them eight, the eighth has no room. */
    private static void eightPrograms() {
        Witness x = new Witness();
        x.add(0, 62, 0, 0, 0, 0, 0, 1, 0);
        x.start(0, 0);
        for (int many = 2; many <= 8; many++) {
            Check.due("call", x.turn(0, 1), GOES_ON);
            Check.due("under way", x.told(0, 5), many);
        }
        Check.due("ROOM", x.turn(0, 1), -19);
        dueTold("ROOM", x, 0, 7, 1, 9, 0, 0, 0, -1, 0);
        Check.due("started again", x.start(0, 0), 1);
        Check.due("one under way", x.told(0, 5), 1);
        Check.due("seven calls", x.turn(0, 7), GOES_ON);
        Check.due("eight under way", x.told(0, 5), 8);
    }

    private static void eightProgramsOfEachThread() {
        Witness x = new Witness();
        x.add(0, 62, 0, 0, 0, 0, 0, 1, 0);
        for (int s = 0; s <= 2; s++) {
            x.start(s, 0);
            Check.due("seven calls", x.turn(s, 7), GOES_ON);
        }
        for (int s = 0; s <= 2; s++) {
            Check.due("eight under way", x.told(s, 5), 8);
            Check.due("ROOM", x.turn(s, 1), -19);
        }
    }

    /** Eight PROGRAMS whose CALL is their last ACT: with the last ACT of the eighth all of them have ended. */
    private static void eightEndAtOnce() {
        Witness x = new Witness();
        x.add(0, 3, 0, 1, 1, 60, 3, 0, 0, 62, 0, 0, 0);
        x.run(0, 0, 0, 8, 0, 0, 1, 1, 0);
        int before = x.told(0, 0);
        x.start(0, 0);
        Check.due("seven calls", x.turn(0, 22), GOES_ON);
        Check.due("eight under way", x.told(0, 5), 8);
        Check.due("the last act", x.turn(0, 1), ENDED);
        dueTold("all have ended", x, 0, before + 23, 0, 0, -1, -1, 0, -1, 0);
        Check.due("threads", x.count(7), 0);
        Check.due("started again", x.start(0, 0), 1);
    }

    /** A CALL without room FAILS of itself: it counts, and a HANDLER of the eighth takes it; all eight end in turn. */
    private static void roomIsHandled() {
        Witness x = new Witness();
        x.add(0, 62, 0, 0, 0, 3, 0, 0, 1);
        x.handler(0, 0, 1, 9, 1);
        x.run(0, 0, 1, 1, 0);
        x.start(0, 0);
        Check.due("no room", x.turn(0, 8), GOES_ON);
        dueTold("no room", x, 0, 8, 1, 9, 0, 0, 8, -1, 1);
        Check.due("the eighth ends", x.turn(0, 1), GOES_ON);
        Check.due("under way", x.told(0, 5), 7);
        Check.due("all end", x.turn(0, 7), ENDED);
        Check.due("N 0", x.number(0, 0), 8);
        Witness y = new Witness();
        y.add(0, 62, 0, 0, 0, 59, 0, 0, 0);
        y.handler(0, 0, 1, 9, 0);
        y.start(0, 0);
        Check.due("20 calls without room", y.turn(0, 27), GOES_ON);
        Check.due("failures", y.told(0, 1), 20);
        Check.due("21 of them", y.turn(0, 21), SPENT);
    }

    /** A FAILURE eight PROGRAMS deep comes to the first: one ACT, one FAILURE, and what was done stays. */
    private static void callsThatFail() {
        Witness x = new Witness();
        x.add(0, 3, 0, 0, 1, 3, 2, 1, 1, 60, 4, 2, 0, 62, 0, 0, 0, 58, 0, 21, 0);
        x.run(0, 0, 1, 1, 0, 0, 2, 8, 0);
        int before = x.told(0, 0);
        x.start(0, 0);
        Check.due("seven calls", x.turn(0, 4 * 7 + 3), GOES_ON);
        Check.due("eight under way", x.told(0, 5), 8);
        Check.due("the eighth fails, and all", x.turn(0, 1), -31);
        dueTold("all fail", x, 0, before + 31, 1, 21, 0, 4, 0, -1, 0);
        Check.due("what was done stays", x.number(0, 0), 8);
        // the same with a HANDLER of another PROGRAM that CALLED the first of them: the CALL is at its PLACE 1
        x.empty(5);
        x.add(5, 0, 2, 7, 0, 62, 0, 0, 0, 0, 3, 4, 0, 0, 3, 5, 0);
        x.handler(5, 0, 1, -1, 2);
        x.handler(5, 1, 2, 21, 3);
        x.start(0, 5);
        Check.due("handled far above", x.turn(0, 500), ENDED);
        Check.due("N 3", x.number(0, 3), 5);
        Check.due("N 7", x.number(0, 7), 21);
        dueTold("handled", x, 0, before + 31 + 2 + 27 + 1, 2, 21, 0, 4, 0, -1, 0);
    }

    private static void emptyProgramsCalled() {
        Witness x = new Witness();
        x.add(0, 62, 1, 0, 0, 62, 1, 0, 0, 0, 0, 3, 0);
        x.start(0, 0);
        Check.due("a call of nothing", x.turn(0, 1), GOES_ON);
        dueTold("a call of nothing", x, 0, 1, 0, 0, -1, -1, 1, -1, 1);
        Check.due("and one", x.turn(0, 1), GOES_ON);
        Check.due("and the end", x.turn(0, 1), ENDED);
        // with eight under way there is no room for it, though it would end at once
        Witness y = new Witness();
        y.add(0, 60, 2, 0, 0, 0, 0, 0, 0, 3, 2, 1, 1, 60, 6, 2, 0, 62, 0, 0, 0, 63, 0, 0, 0, 62, 1, 0, 0);
        y.run(0, 0, 1, 1, 0, 0, 2, 8, 0);
        y.start(0, 0);
        Check.due("eight deep", y.turn(0, 500), -19);
        Check.due("its place", y.told(0, 4), 6);
    }

    /** "63 the PROGRAM ends": that ACT is counted; the end behind the last ACT is none. */
    private static void ends() {
        Witness x = new Witness();
        x.add(0, 62, 1, 0, 0, 62, 2, 0, 0, 63, 0, 0, 0, 0, 0, 9, 0);
        x.add(1, 63, 0, 0, 0, 0, 0, 8, 0);
        x.add(2, 0, 1, 7, 0);
        x.start(0, 0);
        Check.due("call, 63", x.turn(0, 2), GOES_ON);
        Check.due("one left", x.told(0, 5), 1);
        Check.due("call, its last act", x.turn(0, 2), GOES_ON);
        Check.due("one left", x.told(0, 5), 1);
        Check.due("63", x.turn(0, 1), ENDED);
        Check.due("acts", x.told(0, 0), 5);
        Check.due("N 0", x.number(0, 0), 0);
        Check.due("N 1", x.number(0, 1), 7);
    }

    /** "64 LOCKS T b: NULL; .. else it has it once more. 65 T b is let go once: NULL; OWNER". */
    private static void locks() {
        Twins.fails("64 of none", 1, Twins::nothing, 64, 0, 7, 0);
        Twins.fails("65 of none", 1, Twins::nothing, 65, 0, 7, 0);
        Twins.fails("65 of what nobody LOCKS", 7, x -> x.run(0, 18, 7, 0, 0), 65, 0, 7, 0);
        Twins.fails("65 of what was LOCKED in an earlier start", 7, x -> x.run(0, 18, 7, 0, 0, 64, 0, 7, 0), 65, 0, 7, 0);
        Twins.fails("65 of what was let go", 7, x -> x.run(0, 18, 7, 0, 0, 64, 0, 7, 0, 65, 0, 7, 0), 65, 0, 7, 0);
        for (int many = 1; many <= 9; many += 4) {
            Witness x = new Witness();
            x.add(0, 18, 0, 0, 0);
            for (int k = 0; k < many; k++) {
                x.add(0, 64, 0, 0, 0);
            }
            for (int k = 0; k <= many; k++) {
                x.add(0, 65, 0, 0, 0);
            }
            x.start(0, 0);
            Check.due("locks", x.turn(0, 1 + many), GOES_ON);
            Check.due("how often", x.thing(0, 3), many);
            Check.due("let go, but once", x.turn(0, many - 1 + (many == 1 ? 1 : 0)), GOES_ON);
            Check.due("how often", x.thing(0, 3), many == 1 ? 0 : 1);
            Check.due("its thread", x.thing(0, 2), many == 1 ? -1 : 0);
            Check.due("once too often", x.turn(0, 500), -17);
            Check.due("how often", x.thing(0, 3), 0);
        }
    }

    /** ROWS are LOCKED as OBJECTS are; a LOCK is no hindrance to any other ACT, nor does a copy have it. */
    private static void locksChangeNothing() {
        Witness x = new Witness();
        x.add(0, 0, 0, 2, 0, 14, 0, 4, 0, 64, 0, 0, 0, 32, 0, 0, 1, 47, 1, 0, 0, 12, 2, 0, 0, 13, 0, 0, 0, 65, 0, 2, 0,
                63, 0, 0, 0);
        x.start(0, 0);
        Check.due("a row", x.turn(0, 7), GOES_ON);
        Check.due("item", x.item(0, 0), 2);
        Check.due("locked", x.thing(0, 2), 0);
        Check.due("locked once", x.thing(0, 3), 1);
        Check.due("the copy is not", x.thing(1, 2), -1);
        Check.due("the copy is not", x.thing(1, 3), 0);
        Check.due("let go by another hold", x.turn(0, 1), GOES_ON);
        Check.due("let go", x.thing(0, 2), -1);
        Check.due("it goes on behind that", x.turn(0, 1), ENDED);
    }
}
