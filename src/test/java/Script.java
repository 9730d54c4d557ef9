/** Short ways to give PROGRAMS to a MachineWitness and run them. */
final class Script {
    private Script() {
    }

    /** ACTS behind those that the PROGRAM has, four numbers each. */
    static void add(MachineWitness x, int program, int... acts) {
        for (int k = 0; k + 3 < acts.length; k += 4) {
            if (x.act(program, acts[k], acts[k + 1], acts[k + 2], acts[k + 3]) < 0) {
                Check.due("act " + k / 4 + " of a script (op " + acts[k] + ") taken", 0, 1);
            }
        }
    }

    /** PROGRAM 5 becomes these ACTS, and the THREAD runs it; what turn() answers. */
    static int run(MachineWitness x, int thread, int... acts) {
        x.empty(5);
        add(x, 5, acts);
        x.start(thread, 5);
        return x.turn(thread, 500);
    }

    static MachineWitness with(int program, int... acts) {
        MachineWitness x = new MachineWitness();
        add(x, program, acts);
        return x;
    }
}
