/** The class and the Oracle side by side: every call goes to both, and their answers have to be alike. */
final class Pair {
    final MachineWitness got = new MachineWitness();
    final Oracle want = new Oracle();
    static int ringsSeen = 0;
    private final String run;

    Pair(String run) {
        this.run = run + ": ";
    }

    int act(int p, int op, int a, int b, int c) {
        int due = want.act(p, op, a, b, c);
        Check.due(run + "act(" + p + ", " + op + ", " + a + ", " + b + ", " + c + ")", got.act(p, op, a, b, c), due);
        return due;
    }

    int handler(int p, int from, int to, int failure, int place) {
        int due = want.handler(p, from, to, failure, place);
        String call = "handler(" + p + ", " + from + ", " + to + ", " + failure + ", " + place + ")";
        Check.due(run + call, got.handler(p, from, to, failure, place), due);
        return due;
    }

    int empty(int p) {
        int due = want.empty(p);
        Check.due(run + "empty(" + p + ")", got.empty(p), due);
        return due;
    }

    int start(int thread, int p) {
        int due = want.start(thread, p);
        Check.due(run + "start(" + thread + ", " + p + ")", got.start(thread, p), due);
        return due;
    }

    int turn(int thread, int n) {
        int due = want.turn(thread, n);
        Check.due(run + "turn(" + thread + ", " + n + ")", got.turn(thread, n), due);
        return due;
    }

    int clear() {
        int due = want.clear();
        Check.due(run + "clear()", got.clear(), due);
        return due;
    }

    /** One ACT, by itself, of a THREAD that is not under way; PROGRAM 5 is used for it. */
    int once(int thread, int op, int a, int b, int c) {
        empty(5);
        act(5, op, a, b, c);
        start(thread, 5);
        return turn(thread, 1);
    }

    void share(int from, int k, int to, int j) {
        want.share(from, k, to, j);
        Inside.share(got, from, k, to, j);
    }

    void compareThread(int s) {
        for (int k = -1; k <= 8; k++) {
            Check.due(run + "number " + s + " " + k, got.number(s, k), want.number(s, k));
            Check.due(run + "real " + s + " " + k, got.real(s, k), want.real(s, k));
            Check.due(run + "small " + s + " " + k, got.small(s, k), want.small(s, k));
            Check.due(run + "hold " + s + " " + k, got.hold(s, k), want.hold(s, k));
            Check.due(run + "told " + s + " " + k, got.told(s, k), want.told(s, k));
        }
        int ring = want.ring(s);
        Check.due(run + "ring " + s, got.ring(s), ring);
        ringsSeen += ring == 1 ? 1 : 0;
        Check.due(run + "trace", got.trace(), want.trace());
    }

    void compareThing(int t) {
        for (int what = -1; what <= 4; what++) {
            Check.due(run + "thing " + t + " " + what, got.thing(t, what), want.thing(t, what));
        }
        for (int i = -1; i <= 12; i++) {
            Check.due(run + "item " + t + " " + i, got.item(t, i), want.item(t, i));
        }
        for (int b = -1; b <= 9; b++) {
            Check.due(run + "field " + t + " " + b, got.field(t, b), want.field(t, b));
        }
    }

    void compareAll() {
        for (int s = -1; s <= 3; s++) {
            compareThread(s);
        }
        for (int what = -1; what <= 8; what++) {
            Check.due(run + "count " + what, got.count(what), want.count(what));
        }
        for (int t = -1; t <= want.count(0); t++) {
            compareThing(t);
        }
    }
}
