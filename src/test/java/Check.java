/** Counts wrong answers, prints each, and ends the program with exit code 1 if there was one. */
final class Check {
    private final String test;
    private int wrong;

    Check(String test) {
        this.test = test;
    }

    void due(String what, long got, long want) {
        if (got != want) {
            wrong++;
            System.out.println(test + ": " + what + " answered " + got + ", due is " + want);
        }
    }

    void due(String what, boolean got, boolean want) {
        due(what, got ? 1L : 0L, want ? 1L : 0L);
    }

    /** The entry as one row: state, command, seq, deps, promised. */
    void entry(String what, LeaderlessMap x, int r, int i, int... row) {
        String at = what + ", replica " + r + ", instance " + i + ": ";
        due(at + "state", x.state(r, i), row[0]);
        due(at + "command", x.command(r, i), row[1]);
        due(at + "seq", x.seq(r, i), row[2]);
        due(at + "deps", x.deps(r, i), row[3]);
        due(at + "promised", x.promised(r, i), row[4]);
    }

    /** The messages under way, each as kind, sender, receiver, instance. */
    void messages(String what, LeaderlessMap x, int[]... rows) {
        due(what + ": waiting", x.waiting(), rows.length);
        for (int k = 0; k < rows.length; k++) {
            int want = rows[k][0] + 8 * rows[k][1] + 64 * rows[k][2] + 512 * rows[k][3];
            due(what + ": message " + k, x.message(k), want);
        }
        due(what + ": message after the last", x.message(rows.length), -1);
    }

    static int[] m(int kind, int sender, int receiver, int instance) {
        return new int[] {kind, sender, receiver, instance};
    }

    /** Delivers the first message of this kind, sender, receiver and instance; it must be there. */
    void pass(LeaderlessMap x, int kind, int sender, int receiver, int instance) {
        int want = kind + 8 * sender + 64 * receiver + 512 * instance;
        for (int k = 0; k < 40; k++) {
            if (x.message(k) == want) {
                due("deliver(" + k + ")", x.deliver(k), kind);
                return;
            }
        }
        due("a message of kind " + kind + " from " + sender + " to " + receiver + " about " + instance, -1, want);
    }

    static void deliverAll(LeaderlessMap x) {
        for (int k = 0; k < 200 && x.deliver(0) >= 0; k++) {
            continue;
        }
    }

    static void loseAll(LeaderlessMap x) {
        for (int k = 0; k < 40 && x.lose(0); k++) {
            continue;
        }
    }

    void end() {
        System.out.println(test + (wrong == 0 ? ": all answers are as due" : ": " + wrong + " answers are not as due"));
        if (wrong != 0) {
            System.exit(1);
        }
    }
}
