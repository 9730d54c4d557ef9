/** Promises 6, 11, 15: turn, told, ring; with jumps, CALLS, HANDLERS, FAILURES, LOCKS (ACTS 58 to 65). */
public final class TurnPromisesTest {
    public static void main(String[] args) {
        refusals();
        partsOfAProgram();
        endsAtOnce();
        jumps();
        calls();
        callsTooDeep();
        endOfThread();
        handlersInOrder();
        failuresOfCalls();
        spent();
        locks();
        waiting();
        rings();
        toldRefusals();
        Check.end();
    }

    private static void dueTold(String when, MachineWitness x, int thread, int... want) {
        for (int what = 0; what < want.length; what++) {
            Check.due(when + ": told " + what, x.told(thread, what), want[what]);
        }
    }

    private static void refusals() {
        MachineWitness x = new MachineWitness();
        Check.due("turn STATE", x.turn(0, 1), -2);
        for (int n : new int[] {0, -1, 501, Integer.MIN_VALUE, Integer.MAX_VALUE}) {
            Check.due("turn BAD before STATE", x.turn(0, n), -1);
        }
        Check.due("turn BAD", x.turn(-1, 1), -1);
        Check.due("turn BAD", x.turn(3, 1), -1);
        Check.due("turn STATE", x.turn(2, 500), -2);
    }

    private static void partsOfAProgram() {
        MachineWitness x = Script.with(0, 0, 0, 1, 0, 0, 1, 2, 0, 0, 2, 3, 0, 0, 3, 4, 0);
        x.start(1, 0);
        dueTold("started", x, 1, 0, 0, 0, -1, -1, 1, -1, 1);
        Check.due("turn 1", x.turn(1, 1), 1);
        Check.due("N 0", x.number(1, 0), 1);
        Check.due("N 1", x.number(1, 1), 0);
        Check.due("turn 2", x.turn(1, 2), 1);
        Check.due("N 2", x.number(1, 2), 3);
        Check.due("turn 500", x.turn(1, 500), 0);
        Check.due("N 3", x.number(1, 3), 4);
        dueTold("ended", x, 1, 4, 0, 0, -1, -1, 0, -1, 0);
        Check.due("turn behind the end", x.turn(1, 1), -2);
    }

    private static void endsAtOnce() {
        MachineWitness x = Script.with(0, 0, 0, 1, 0, 0, 1, 2, 0);
        x.start(0, 0);
        Check.due("just its acts", x.turn(0, 2), 0);
        x.start(0, 1);
        Check.due("no acts, but under way", x.told(0, 7), 1);
        Check.due("no acts", x.turn(0, 1), 0);
        dueTold("no acts", x, 0, 2, 0, 0, -1, -1, 0, -1, 0);
        // a CALL of an empty program at the end of a program at the end of a program
        x.clear();
        Script.add(x, 0, 62, 1, 0, 0);
        Script.add(x, 1, 62, 2, 0, 0);
        x.start(0, 0);
        Check.due("first call", x.turn(0, 1), 1);
        Check.due("programs under way", x.told(0, 5), 2);
        Check.due("all end with the second call", x.turn(0, 1), 0);
        dueTold("calls", x, 0, 2, 0, 0, -1, -1, 0, -1, 0);
        // acts that come behind start() are done, too
        x.clear();
        x.start(0, 0);
        Script.add(x, 0, 0, 4, 44, 0);
        Check.due("act behind start", x.turn(0, 1), 0);
        Check.due("N 4", x.number(0, 4), 44);
        // what was called has ended behind its last ACT, though acts come to it later
        x.clear();
        Script.add(x, 0, 62, 1, 0, 0, 0, 1, 1, 0);
        Script.add(x, 1, 0, 0, 1, 0);
        x.start(0, 0);
        Check.due("call and act", x.turn(0, 2), 1);
        Check.due("one under way", x.told(0, 5), 1);
        Script.add(x, 1, 0, 0, 77, 0);
        Check.due("goes on behind the call", x.turn(0, 1), 0);
        Check.due("N 0", x.number(0, 0), 1);
        Check.due("N 1", x.number(0, 1), 1);
    }

    private static void jumps() {
        // counts N 0 down from 3 by N 1, N 2 counting rounds
        MachineWitness x = Script.with(0, 0, 0, 3, 0, 0, 1, 1, 0, 3, 0, 1, 1, 3, 2, 0, 1, 60, 2, 0, 3);
        x.start(0, 0);
        Check.due("loop", x.turn(0, 500), 0);
        Check.due("N 2", x.number(0, 2), 3);
        Check.due("acts", x.told(0, 0), 2 + 9);
        long[] values = {0, 1, -1};
        for (int c = 0; c <= 3; c++) {
            for (long value : values) {
                boolean so = c == 0 ? value == 0 : c == 1 ? value != 0 : c == 2 ? value < 0 : value > 0;
                MachineWitness y = Script.with(0, 0, 5, (int) value, 0, 60, 3, 5, c, 0, 0, 9, 0, 63, 0, 0, 0);
                y.start(0, 0);
                Check.due("jump by test " + c, y.turn(0, 500), 0);
                Check.due("jump by test " + c + " of " + value, y.number(0, 0), so ? 0 : 9);
            }
        }
        MachineWitness y = Script.with(0, 61, 2, 3, 0, 0, 0, 9, 0, 18, 3, 0, 0, 61, 39, 3, 0, 0, 1, 8, 0, 59, 39, 0, 0,
                0, 1, 7, 0);
        y.start(0, 0);
        Check.due("jumps by holds, and behind the last act", y.turn(0, 500), 0);
        Check.due("N 0 passed over", y.number(0, 0), 0);
        Check.due("N 1 not passed over", y.number(0, 1), 8);
        Check.due("acts", y.told(0, 0), 5);
        MachineWitness z = Script.with(0, 59, 0, 0, 0);
        z.start(0, 0);
        Check.due("without an end", z.turn(0, 500), 1);
        Check.due("acts", z.told(0, 0), 500);
    }

    private static void calls() {
        MachineWitness x = Script.with(0, 62, 1, 0, 0, 0, 1, 5, 0);
        Script.add(x, 1, 0, 0, 4, 0, 62, 2, 0, 0, 63, 0, 0, 0, 0, 0, 99, 0);
        Script.add(x, 2, 0, 2, 6, 0);
        x.start(0, 0);
        Check.due("call", x.turn(0, 1), 1);
        dueTold("call", x, 0, 1, 0, 0, -1, -1, 2, -1, 1);
        Check.due("call in a call", x.turn(0, 2), 1);
        dueTold("call in a call", x, 0, 3, 0, 0, -1, -1, 3, -1, 1);
        Check.due("the third ends", x.turn(0, 1), 1);
        Check.due("told 5", x.told(0, 5), 2);
        Check.due("the second ends", x.turn(0, 1), 1);
        Check.due("told 5", x.told(0, 5), 1);
        Check.due("end", x.turn(0, 1), 0);
        Check.due("N 0", x.number(0, 0), 4);
        Check.due("N 1", x.number(0, 1), 5);
        Check.due("N 2", x.number(0, 2), 6);
        Check.due("acts", x.told(0, 0), 6);
    }

    private static void callsTooDeep() {
        MachineWitness x = Script.with(0, 0, 0, 1, 0, 62, 0, 0, 0);
        x.start(0, 0);
        Check.due("seven calls", x.turn(0, 15), 1);
        Check.due("eight under way", x.told(0, 5), 8);
        Check.due("ROOM", x.turn(0, 1), -19);
        dueTold("ROOM", x, 0, 15, 1, 9, 0, 1, 0, -1, 0);
        x.handler(0, 1, 2, 9, 2);
        x.start(0, 0);
        Check.due("handled in the eighth", x.turn(0, 16), 0);
        Check.due("N 7", x.number(0, 7), 9);
    }

    private static void endOfThread() {
        MachineWitness x = Script.with(0, 18, 0, 0, 0, 64, 0, 0, 0, 0, 3, 8, 0, 63, 0, 0, 0, 0, 3, 9, 0);
        x.start(2, 0);
        Check.due("LOCKS", x.turn(2, 3), 1);
        Check.due("its thread", x.thing(0, 2), 2);
        Check.due("end by 63", x.turn(2, 1), 0);
        Check.due("let go", x.thing(0, 2), -1);
        Check.due("let go", x.thing(0, 3), 0);
        Check.due("registers stay", x.number(2, 3), 8);
        Check.due("holds stay", x.hold(2, 0), 0);
        Script.add(x, 1, 64, 0, 0, 0, 64, 0, 0, 0, 58, 0, 27, 0);
        x.start(2, 1);
        Check.due("LOCKS", x.turn(2, 2), 1);
        Check.due("twice", x.thing(0, 3), 2);
        Check.due("end by 27", x.turn(2, 1), -37);
        Check.due("let go", x.thing(0, 3), 0);
        dueTold("end by 27", x, 2, 6, 1, 27, 1, 2, 0, -1, 0);
    }

    private static void handlersInOrder() {
        MachineWitness x = Script.with(0, 58, 0, 20, 0, 58, 0, 21, 0, 58, 0, -1, 0, 58, 0, 29, 0, 0, 0, 1, 0);
        x.handler(0, 0, 1, 21, 4);
        x.handler(0, 0, 1, 20, 1);
        x.handler(0, 1, 3, -1, 2);
        x.handler(0, 1, 3, 21, 4);
        x.start(0, 0);
        Check.due("the first that fits", x.turn(0, 1), 1);
        Check.due("N 7", x.number(0, 7), 20);
        dueTold("20", x, 0, 0, 1, 20, 0, 0, 1, -1, 1);
        Check.due("any, before that one", x.turn(0, 1), 1);
        Check.due("N 7", x.number(0, 7), 21);
        Check.due("none raised is NULL", x.turn(0, 1), 1);
        Check.due("N 7", x.number(0, 7), 1);
        dueTold("NULL", x, 0, 0, 3, 1, 0, 2, 1, -1, 1);
        MachineWitness y = Script.with(0, 58, 0, 22, 0, 0, 0, 1, 0);
        y.handler(0, 1, 40, -1, 1);
        y.handler(0, 0, 1, 23, 1);
        y.start(0, 0);
        Check.due("none fits", y.turn(0, 5), -32);
        Check.due("N 7 stays", y.number(0, 7), 0);
        MachineWitness z = Script.with(0, 58, 0, 22, 0, 0, 0, 1, 0);
        z.handler(0, 0, 1, 22, 39);
        z.start(0, 0);
        Check.due("a place behind the last act: the end", z.turn(0, 1), 0);
        Check.due("N 7", z.number(0, 7), 22);
    }

    private static void failuresOfCalls() {
        MachineWitness x = Script.with(0, 0, 0, 1, 0, 62, 1, 0, 0, 0, 0, 2, 0, 63, 0, 0, 0, 0, 0, 3, 0);
        x.handler(0, 1, 2, 25, 4);
        Script.add(x, 1, 0, 1, 6, 0, 62, 2, 0, 0);
        x.handler(1, 0, 40, 24, 0);
        Script.add(x, 2, 0, 2, 7, 0, 58, 0, 25, 0);
        x.start(0, 0);
        Check.due("failure two calls down", x.turn(0, 6), 1);
        dueTold("failure two calls down", x, 0, 5, 1, 25, 2, 1, 1, -1, 1);
        Check.due("N 7", x.number(0, 7), 25);
        Check.due("goes on at the handler's place", x.turn(0, 1), 0);
        Check.due("N 0", x.number(0, 0), 3);
        Check.due("what the programs did stays", x.number(0, 1), 6);
        Check.due("what the programs did stays", x.number(0, 2), 7);
        x.start(1, 1);
        Check.due("not handled", x.turn(1, 500), -35);
        dueTold("not handled", x, 1, 3, 1, 25, 2, 1, 0, -1, 0);
    }

    private static void spent() {
        MachineWitness x = Script.with(0, 58, 0, 26, 0, 59, 0, 0, 0);
        x.handler(0, 0, 1, -1, 1);
        x.start(0, 0);
        Check.due("20 failures", x.turn(0, 40), 1);
        dueTold("20 failures", x, 0, 20, 20, 26, 0, 0, 1, -1, 1);
        Check.due("20 more in another turn", x.turn(0, 40), 1);
        Check.due("the 21st of a turn", x.turn(0, 41), -21);
        dueTold("SPENT", x, 0, 60, 61, 11, 0, 0, 0, -1, 0);
        Check.due("N 7", x.number(0, 7), 26);
        MachineWitness y = Script.with(0, 62, 1, 0, 0, 59, 0, 0, 0);
        y.handler(0, 0, 1, -1, 1);
        Script.add(y, 1, 58, 0, 28, 0);
        y.start(0, 0);
        Check.due("calls that fail count none", y.turn(0, 60), 1);
        dueTold("calls that fail", y, 0, 40, 20, 28, 1, 0, 1, -1, 1);
        Check.due("SPENT in a call", y.turn(0, 500), -21);
        dueTold("SPENT in a call", y, 0, 40 + 41, 41, 11, 1, 0, 0, -1, 0);
        MachineWitness z = Script.with(0, 58, 0, 26, 0);
        z.handler(0, 0, 1, -1, 0);
        z.start(0, 0);
        Check.due("none but failures", z.turn(0, 20), 1);
        Check.due("a turn's own count", z.turn(0, 20), 1);
        Check.due("the 21st", z.turn(0, 21), -21);
    }

    private static void locks() {
        MachineWitness x = Script.with(0, 64, 0, 1, 0, 65, 0, 1, 0, 18, 1, 0, 0, 65, 0, 1, 0, 64, 0, 1, 0, 64, 0, 1, 0,
                65, 0, 1, 0, 65, 0, 1, 0, 65, 0, 1, 0);
        for (int k = 0; k < 2; k++) {
            x.handler(0, k, k + 1, 1, k + 1);
        }
        x.handler(0, 3, 4, 7, 4);
        x.start(1, 0);
        Check.due("NULL twice", x.turn(1, 2), 1);
        dueTold("NULL twice", x, 1, 0, 2, 1, 0, 1, 1, -1, 1);
        Check.due("OWNER", x.turn(1, 2), 1);
        dueTold("OWNER", x, 1, 1, 3, 7, 0, 3, 1, -1, 1);
        Check.due("LOCKS twice", x.turn(1, 2), 1);
        Check.due("thread", x.thing(0, 2), 1);
        Check.due("how often", x.thing(0, 3), 2);
        Check.due("let go once", x.turn(1, 1), 1);
        Check.due("thread", x.thing(0, 2), 1);
        Check.due("how often", x.thing(0, 3), 1);
        Check.due("let go", x.turn(1, 1), 1);
        Check.due("thread", x.thing(0, 2), -1);
        Check.due("how often", x.thing(0, 3), 0);
        Check.due("OWNER", x.turn(1, 1), -17);
    }

    private static void waiting() {
        MachineWitness x = Script.with(0, 18, 0, 0, 0, 64, 0, 0, 0, 0, 0, 5, 0, 65, 0, 0, 0, 0, 0, 6, 0);
        Script.add(x, 1, 0, 0, 1, 0, 64, 0, 0, 0, 0, 0, 2, 0, 0, 0, 3, 0);
        x.start(0, 0);
        x.start(1, 1);
        Check.due("0 LOCKS", x.turn(0, 2), 1);
        Inside.share(x, 0, 0, 1, 0);
        Check.due("1 comes to the lock", x.turn(1, 1), 1);
        Check.due("it does not WAIT yet", x.told(1, 6), -1);
        Check.due("1 WAITS", x.turn(1, 5), 2);
        dueTold("1 WAITS", x, 1, 1, 0, 0, -1, -1, 1, 0, 1);
        Check.due("still", x.turn(1, 5), 2);
        Check.due("the lock stays", x.thing(0, 3), 1);
        Check.due("no ring", x.ring(1), 0);
        Check.due("0 lets go", x.turn(0, 2), 1);
        Check.due("as its latest turn left it", x.told(1, 6), 0);
        Check.due("1 LOCKS", x.turn(1, 1), 1);
        dueTold("1 LOCKS", x, 1, 2, 0, 0, -1, -1, 1, -1, 1);
        Check.due("its thread", x.thing(0, 2), 1);
        Check.due("1 ends", x.turn(1, 2), 0);
        Check.due("let go", x.thing(0, 2), -1);
        Script.add(x, 2, 65, 0, 0, 0);
        Script.add(x, 3, 64, 0, 0, 0, 0, 0, 0, 0);
        x.start(1, 3);
        Check.due("1 LOCKS again", x.turn(1, 1), 1);
        Inside.share(x, 0, 0, 2, 0);
        x.start(2, 2);
        Check.due("OWNER: another's", x.turn(2, 1), -17);
        Check.due("that one's lock stays", x.thing(0, 2), 1);
    }

    private static void rings() {
        MachineWitness x = Script.with(0, 64, 0, 0, 0, 64, 0, 1, 0, 0, 0, 0, 0);
        Script.run(x, 0, 18, 0, 0, 0, 18, 1, 1, 0, 14, 2, 4, 0);
        // 0 LOCKS 0, then 1; 1 LOCKS 1, then 2; 2 LOCKS 2, then 0
        Inside.share(x, 0, 1, 1, 0);
        Inside.share(x, 0, 2, 1, 1);
        Inside.share(x, 0, 2, 2, 0);
        Inside.share(x, 0, 0, 2, 1);
        for (int s = 0; s < 3; s++) {
            x.start(s, 0);
            Check.due("the first lock", x.turn(s, 1), 1);
        }
        Check.due("0 WAITS for 1", x.turn(0, 1), 2);
        Check.due("no ring of 0", x.ring(0), 0);
        Check.due("1 WAITS for 2", x.turn(1, 1), 2);
        Check.due("no ring of 0", x.ring(0), 0);
        Check.due("2 WAITS for 0", x.turn(2, 1), 2);
        for (int s = 0; s < 3; s++) {
            Check.due("ring of " + s, x.ring(s), 1);
        }
        for (int s : new int[] {-1, 3, Integer.MIN_VALUE, Integer.MAX_VALUE}) {
            Check.due("ring BAD", x.ring(s), -1);
        }
        // 0 and 1 WAIT for one another; 2 WAITS for 0 and is in no ring
        MachineWitness y = Script.with(0, 64, 0, 0, 0, 64, 0, 1, 0, 0, 0, 0, 0);
        Script.add(y, 1, 64, 0, 0, 0, 0, 0, 0, 0);
        Script.run(y, 0, 18, 0, 0, 0, 18, 1, 1, 0);
        Inside.share(y, 0, 0, 1, 1);
        Inside.share(y, 0, 1, 1, 0);
        Inside.share(y, 0, 0, 2, 0);
        y.start(0, 0);
        y.start(1, 0);
        y.start(2, 1);
        y.turn(0, 1);
        y.turn(1, 1);
        Check.due("0", y.turn(0, 1), 2);
        Check.due("1", y.turn(1, 1), 2);
        Check.due("2", y.turn(2, 1), 2);
        Check.due("ring of 0", y.ring(0), 1);
        Check.due("ring of 1", y.ring(1), 1);
        Check.due("no ring of 2", y.ring(2), 0);
    }

    private static void toldRefusals() {
        MachineWitness x = new MachineWitness();
        Check.due("told BAD", x.told(-1, 0), -2);
        Check.due("told BAD", x.told(3, 0), -2);
        Check.due("told BAD", x.told(0, -1), -2);
        Check.due("told BAD", x.told(0, 8), -2);
    }
}
