/** ACT 64, told 6 and promise 15 where a THREAD WAITS; THINGS are brought to other THREADS by way of Inside. */
public final class WaitBoundsTest {
    private static final int GOES_ON = 1, ENDED = 0, WAITS = 2, NONE = -1;

    public static void main(String[] args) {
        waitingIsNoAct();
        everyPairOfThreads();
        actsBeforeItAreDone();
        waitsInACall();
        lockedAgainIsNoWaiting();
        oneMoreThanLetGo();
        anyEndLetsGo();
        ownerIsAnother();
        nothingElseWaits();
        toldAsTheLatestTurnLeftIt();
        ringsOfTwoAndThree();
        outsideOfARing();
        noRingAnyMore();
        clearedWaiting();
        Check.end();
    }

    /** PROGRAM 0: LOCKS T 0, LOCKS T 1, then an ACT more. T 0 .. T 2 of THREAD 0 are OBJECTS 0 to 2. */
    private static MachineWitness withLocks() {
        MachineWitness x = Script.with(0, 64, 0, 0, 0, 64, 0, 1, 0, 0, 6, 1, 0);
        Check.due("three things", Script.run(x, 0, 18, 0, 0, 0, 18, 1, 3, 0, 18, 2, 4, 0), ENDED);
        return x;
    }

    private static void dueTold(String when, MachineWitness x, int thread, int... want) {
        for (int what = 0; what < want.length; what++) {
            Check.due(when + ": told " + what, x.told(thread, what), want[what]);
        }
    }

    /** "this one WAITS: nothing is done": not counted, not FAILED, however often and however long the turn() is. */
    private static void waitingIsNoAct() {
        MachineWitness x = withLocks();
        Inside.share(x, 0, 0, 1, 0);
        x.start(0, 0);
        x.start(1, 0);
        Check.due("0 locks", x.turn(0, 1), GOES_ON);
        for (int n : new int[] {1, 2, 21, 500}) {
            for (int k = 0; k < 22; k++) {
                Check.due("1 waits", x.turn(1, n), WAITS);
            }
            dueTold("1 waits", x, 1, 0, 0, 0, NONE, NONE, 1, 0, 1);
        }
        Check.due("0 has it", x.thing(0, 2), 0);
        Check.due("once", x.thing(0, 3), 1);
        Check.due("both are under way", x.count(7), 2);
        Check.due("start STATE", x.start(1, 0), -2);
        Check.due("empty STATE", x.empty(0), -2);
    }

    private static void everyPairOfThreads() {
        for (int has = 0; has <= 2; has++) {
            for (int asks = 0; asks <= 2; asks++) {
                if (has == asks) {
                    continue;
                }
                MachineWitness x = Script.with(0, 18, 0, 0, 0, 64, 0, 0, 0, 63, 0, 0, 0);
                Script.add(x, 1, 64, 0, 7, 0, 63, 0, 0, 0);
                x.start(has, 0);
                Check.due("locks", x.turn(has, 2), GOES_ON);
                Inside.share(x, has, 0, asks, 7);
                x.start(asks, 1);
                Check.due(asks + " waits for " + has, x.turn(asks, 1), WAITS);
                Check.due("its thing", x.told(asks, 6), 0);
                Check.due("no ring", x.ring(asks), 0);
                Check.due("the other's end", x.turn(has, 1), ENDED);
                Check.due(asks + " locks", x.turn(asks, 1), GOES_ON);
                Check.due("its thing", x.told(asks, 6), NONE);
                Check.due("its thread", x.thing(0, 2), asks);
            }
        }
    }

    /** "n ACTS at most (..; one that WAITS is none)": those before it are done and the turn() ends there. */
    private static void actsBeforeItAreDone() {
        for (int n = 1; n <= 4; n++) {
            MachineWitness x = withLocks();
            Script.add(x, 1, 0, 3, 1, 0, 0, 3, 2, 0, 64, 0, 0, 0, 0, 3, 3, 0);
            Inside.share(x, 0, 0, 1, 0);
            x.start(0, 0);
            x.turn(0, 1);
            x.start(1, 1);
            Check.due("a turn of " + n, x.turn(1, n), n <= 2 ? GOES_ON : WAITS);
            Check.due("acts", x.told(1, 0), Math.min(n, 2));
            Check.due("N 3", x.number(1, 3), Math.min(n, 2));
            Check.due("waits for", x.told(1, 6), n <= 2 ? NONE : 0);
        }
    }

    private static void waitsInACall() {
        MachineWitness x = withLocks();
        Script.add(x, 1, 62, 2, 0, 0, 0, 3, 5, 0);
        Script.add(x, 2, 64, 0, 0, 0);
        Inside.share(x, 0, 0, 1, 0);
        x.handler(1, 0, 1, -1, 1);
        x.start(0, 0);
        x.turn(0, 1);
        x.start(1, 1);
        Check.due("waits in a call", x.turn(1, 5), WAITS);
        dueTold("waits in a call", x, 1, 1, 0, 0, NONE, NONE, 2, 0, 1);
        Check.due("the other's end", x.turn(0, 5), ENDED);
        Check.due("locks, and behind the call", x.turn(1, 5), ENDED);
        dueTold("its end", x, 1, 3, 0, 0, NONE, NONE, 0, NONE, 0);
    }

    private static void lockedAgainIsNoWaiting() {
        MachineWitness x = Script.with(0, 18, 0, 0, 0, 64, 0, 0, 0, 64, 0, 0, 0, 63, 0, 0, 0);
        x.start(1, 0);
        Check.due("twice by itself", x.turn(1, 3), GOES_ON);
        Check.due("how often", x.thing(0, 3), 2);
        Check.due("waits for none", x.told(1, 6), NONE);
        Check.due("no ring", x.ring(1), 0);
    }

    /** Of two LOCKS one let go is not enough. */
    private static void oneMoreThanLetGo() {
        MachineWitness x = Script.with(0, 18, 0, 0, 0, 64, 0, 0, 0, 64, 0, 0, 0, 65, 0, 0, 0, 65, 0, 0, 0, 0, 0, 1, 0);
        Script.add(x, 1, 64, 0, 0, 0, 63, 0, 0, 0);
        x.start(0, 0);
        x.turn(0, 3);
        Inside.share(x, 0, 0, 1, 0);
        x.start(1, 1);
        Check.due("two", x.turn(1, 1), WAITS);
        x.turn(0, 1);
        Check.due("one", x.turn(1, 1), WAITS);
        x.turn(0, 1);
        Check.due("none", x.turn(1, 1), GOES_ON);
        Check.due("its thread", x.thing(0, 2), 1);
        Check.due("how often", x.thing(0, 3), 1);
    }

    /** "A THREAD that ends lets go all that it LOCKS": by 63, its last ACT, a FAILURE, SPENT. */
    private static void anyEndLetsGo() {
        int[][] ends = {{63, 0, 0, 0, ENDED}, {0, 0, 1, 0, ENDED}, {58, 0, 20, 0, -30}, {58, 0, 21, 0, -21}};
        for (int[] end : ends) {
            MachineWitness x = Script.with(0, 18, 0, 0, 0, 64, 0, 0, 0, end[0], end[1], end[2], end[3]);
            x.handler(0, 2, 3, 21, 2);
            Script.add(x, 1, 64, 0, 0, 0, 63, 0, 0, 0);
            x.start(2, 0);
            x.turn(2, 2);
            Inside.share(x, 2, 0, 0, 0);
            x.start(0, 1);
            Check.due("waits", x.turn(0, 1), WAITS);
            Check.due("the end", x.turn(2, 500), end[4]);
            Check.due("locks", x.turn(0, 1), GOES_ON);
            Check.due("its thread", x.thing(0, 2), 0);
        }
    }

    /** "OWNER: this THREAD has it not": another one has it, and keeps it. */
    private static void ownerIsAnother() {
        MachineWitness x = withLocks();
        Script.add(x, 1, 65, 0, 0, 0);
        Inside.share(x, 0, 0, 1, 0);
        x.start(0, 0);
        x.turn(0, 1);
        x.start(1, 1);
        Check.due("OWNER", x.turn(1, 1), -17);
        Check.due("its thread", x.thing(0, 2), 0);
        Check.due("how often", x.thing(0, 3), 1);
    }

    /** No ACT but 64 asks who LOCKS a THING. */
    private static void nothingElseWaits() {
        MachineWitness x = withLocks();
        Script.add(x, 1, 0, 0, 9, 0, 52, 0, 0, 0, 51, 1, 0, 0, 53, 2, 0, 0, 49, 3, 0, 16, 12, 4, 0, 0);
        Inside.share(x, 0, 0, 1, 0);
        x.start(0, 0);
        x.turn(0, 1);
        x.start(1, 1);
        Check.due("all acts", x.turn(1, 500), ENDED);
        Check.due("n", x.field(0, 0), 9);
        Check.due("its thread", x.thing(0, 2), 0);
    }

    /** Neither what the other one does, nor a refused turn(), changes it. */
    private static void toldAsTheLatestTurnLeftIt() {
        MachineWitness x = withLocks();
        Script.add(x, 1, 64, 0, 0, 0, 63, 0, 0, 0);
        Inside.share(x, 0, 0, 1, 0);
        x.start(0, 0);
        x.turn(0, 1);
        x.start(1, 1);
        x.turn(1, 1);
        Check.due("the other's end", x.turn(0, 500), ENDED);
        Check.due("nobody has it", x.thing(0, 2), NONE);
        Check.due("as it was left", x.told(1, 6), 0);
        Check.due("BAD", x.turn(1, 0), -1);
        Check.due("BAD", x.turn(1, 501), -1);
        Check.due("STATE", x.turn(0, 1), -2);
        Check.due("as it was left", x.told(1, 6), 0);
        Check.due("locks", x.turn(1, 1), GOES_ON);
        Check.due("none", x.told(1, 6), NONE);
    }

    /** So many THREADS, each with the THING that the one before it wants. */
    private static MachineWitness ringOf(int many) {
        MachineWitness x = withLocks();
        for (int s = many - 1; s >= 0; s--) {
            Inside.share(x, 0, (s + 1) % many, s, 4);
            Inside.share(x, 0, s, s, 3);
        }
        Script.add(x, 1, 64, 0, 3, 0, 64, 0, 4, 0, 63, 0, 0, 0);
        for (int s = 0; s < many; s++) {
            x.start(s, 1);
            Check.due("locks its own", x.turn(s, 1), GOES_ON);
        }
        return x;
    }

    private static void ringsOfTwoAndThree() {
        for (int many = 2; many <= 3; many++) {
            MachineWitness x = ringOf(many);
            for (int s = 0; s < many; s++) {
                for (int k = 0; k < 3; k++) {
                    Check.due("no ring before all wait", x.ring(k), 0);
                }
                Check.due("waits", x.turn(s, 1), WAITS);
            }
            for (int s = 0; s < 3; s++) {
                Check.due("ring of " + many + ": " + s, x.ring(s), s < many ? 1 : 0);
            }
            Check.due("BAD", x.ring(3), -1);
            Check.due("BAD", x.ring(-1), -1);
        }
    }

    /** THREAD 2 WAITS for one of a ring of two: it is in no ring, though its way never ends. */
    private static void outsideOfARing() {
        MachineWitness x = ringOf(2);
        Inside.share(x, 0, 0, 2, 3);
        x.start(2, 1);
        Check.due("0 waits", x.turn(0, 1), WAITS);
        Check.due("1 waits", x.turn(1, 1), WAITS);
        Check.due("2 waits", x.turn(2, 1), WAITS);
        Check.due("ring of 0", x.ring(0), 1);
        Check.due("ring of 1", x.ring(1), 1);
        Check.due("no ring of 2", x.ring(2), 0);
    }

    /** "by what they WAIT for, and who LOCKS that now": what 1 wanted has been let go, and 0 WAITS for 1. */
    private static void noRingAnyMore() {
        MachineWitness x = withLocks();
        Script.add(x, 1, 64, 0, 0, 0, 65, 0, 0, 0, 64, 0, 1, 0, 63, 0, 0, 0);
        Script.add(x, 2, 64, 0, 1, 0, 64, 0, 0, 0, 63, 0, 0, 0);
        Inside.share(x, 0, 0, 1, 0);
        Inside.share(x, 0, 1, 1, 1);
        x.start(0, 1);
        x.start(1, 2);
        Check.due("1 locks 1", x.turn(1, 1), GOES_ON);
        Check.due("0 locks 0", x.turn(0, 1), GOES_ON);
        Check.due("1 waits for 0", x.turn(1, 1), WAITS);
        Check.due("0 lets go of 0", x.turn(0, 1), GOES_ON);
        Check.due("0 waits for 1", x.turn(0, 1), WAITS);
        Check.due("1 as it was left", x.told(1, 6), 0);
        Check.due("no ring of 0", x.ring(0), 0);
        Check.due("no ring of 1", x.ring(1), 0);
        Check.due("1 locks 0", x.turn(1, 1), GOES_ON);
        Check.due("no ring of 0", x.ring(0), 0);
    }

    private static void clearedWaiting() {
        MachineWitness x = ringOf(3);
        for (int s = 0; s < 3; s++) {
            x.turn(s, 1);
        }
        Check.due("clear", x.clear(), 3);
        for (int s = 0; s < 3; s++) {
            dueTold("cleared", x, s, 0, 0, 0, NONE, NONE, 0, NONE, 0);
            Check.due("no ring", x.ring(s), 0);
        }
        x.start(0, 0);
        Check.due("waits for none", x.told(0, 6), NONE);
    }
}
