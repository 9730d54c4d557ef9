import java.util.Map;
import java.util.function.Consumer;

/** Of two objects made alike one hears more; whatever that was, no other call may tell them apart. */
final class Twins {
    private Twins() {
    }

    /** A part of a test that does nothing. */
    static void nothing(Witness x) {
    }

    /** Refused calls change nothing; what comes after them lets PROGRAMS and HANDLERS be seen by what they do. */
    static void unchanged(String what, Consumer<Witness> made, Consumer<Witness> refused, Consumer<Witness> after) {
        Witness got = new Witness();
        Witness want = new Witness();
        made.accept(got);
        made.accept(want);
        refused.accept(got);
        after.accept(got);
        after.accept(want);
        dueAlike(what, got.shown(), want.shown());
    }

    /** An ACT of THREAD 0 FAILS and changes nothing: all is as behind an ACT 58 in its place. */
    static void fails(String what, int failure, Consumer<Witness> made, int... act) {
        Witness got = new Witness();
        Witness want = new Witness();
        made.accept(got);
        made.accept(want);
        Check.due(what, once(got, act), -10 - failure);
        once(want, 58, 0, 20, 0);
        Map<String, Long> due = want.shown();
        due.put("told(0, 2)", (long) failure);
        dueAlike(what + " changes nothing", got.shown(), due);
    }

    /** The same ACT does not FAIL, and is counted as done. */
    static Witness does(String what, Consumer<Witness> made, int... act) {
        Witness got = new Witness();
        made.accept(got);
        int done = got.told(0, 0);
        int failed = got.told(0, 1);
        Check.due(what, once(got, act), 0);
        Check.due(what + ": done", got.told(0, 0), done + 1);
        Check.due(what + ": no failure", got.told(0, 1), failed);
        return got;
    }

    private static int once(Witness x, int... act) {
        x.add(4, act);
        x.start(0, 4);
        return x.turn(0, 1);
    }

    private static void dueAlike(String what, Map<String, Long> got, Map<String, Long> want) {
        Check.due(what + ": calls that show it", got.size(), want.size());
        for (Map.Entry<String, Long> entry : want.entrySet()) {
            Long answer = got.get(entry.getKey());
            Check.due(what + ": " + entry.getKey(), answer == null ? Long.MAX_VALUE : answer, entry.getValue());
        }
    }
}
