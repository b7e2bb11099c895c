import java.util.List;

/** Counts wrong answers, prints each, and ends the program with exit code 1 if there was one. */
final class Check {
    private final String test;
    private String sentence = "";
    private int wrong;

    Check(String test) {
        this.test = test;
    }

    /** The document's words that the checks from here on are about. */
    void sentence(String words) {
        sentence = "[" + words + "] ";
    }

    void due(String what, long got, long want) {
        if (got != want) {
            tell(what + " answered " + got + ", due is " + want);
        }
    }

    void due(String what, boolean got, boolean want) {
        due(what, got ? 1L : 0L, want ? 1L : 0L);
    }

    private void tell(String fault) {
        wrong++;
        System.out.println(test + ": " + sentence + fault);
    }

    /** The entry as one row: state, command, seq, deps, promised. */
    void entry(String what, LeaderlessMap x, int r, int i, int... row) {
        String at = what + ", replica " + r + ", instance " + i + ": ";
        due(at + "state", x.state(r, i), row[0]);
        due(at + "command", x.command(r, i), row[1]);
        due(at + "seq", x.seq(r, i), row[2]);
        due(at + "deps", x.deps(r, i), row[3]);
        due(at + "promised", x.promised(r, i), row[4]);
    }

    /** The messages under way, each as kind, sender, receiver, instance. */
    void messages(String what, LeaderlessMap x, int[]... rows) {
        due(what + ": waiting", x.waiting(), rows.length);
        for (int k = 0; k < rows.length; k++) {
            due(what + ": message " + k, x.message(k), number(rows[k][0], rows[k][1], rows[k][2], rows[k][3]));
        }
        due(what + ": message after the last", x.message(rows.length), -1);
    }

    static int[] m(int kind, int sender, int receiver, int instance) {
        return new int[] {kind, sender, receiver, instance};
    }

    static int number(int kind, int sender, int receiver, int instance) {
        return kind + 8 * sender + 64 * receiver + 512 * instance;
    }

    /** Delivers the first message of this kind, sender, receiver and instance; it must be there. */
    void pass(LeaderlessMap x, int kind, int sender, int receiver, int instance) {
        int k = indexOf(x, kind, sender, receiver, instance);
        if (k >= 0) {
            due("deliver(" + k + ")", x.deliver(k), kind);
        }
    }

    /** Loses it instead. */
    void drop(LeaderlessMap x, int kind, int sender, int receiver, int instance) {
        int k = indexOf(x, kind, sender, receiver, instance);
        if (k >= 0) {
            due("lose(" + k + ")", x.lose(k), true);
        }
    }

    private int indexOf(LeaderlessMap x, int kind, int sender, int receiver, int instance) {
        int want = number(kind, sender, receiver, instance);
        for (int k = 0; k < 40; k++) {
            if (x.message(k) == want) {
                return k;
            }
        }
        tell("no message of kind " + kind + " from " + sender + " to " + receiver + " about " + instance);
        return -1;
    }

    /** Passes a message that asks and then the reply to it. */
    void ask(LeaderlessMap x, int kind, int sender, int receiver, int instance) {
        pass(x, kind, sender, receiver, instance);
        pass(x, kind + 1, receiver, sender, instance);
    }

    /** The calls must leave the object as the run left it, also in what it does next. */
    void unchanged(String what, int n, Picture.Run run, int instance, Picture.Run calls) {
        List<String> before = Picture.withSequels(n, run, instance);
        same(what, before, Picture.withSequels(n, Picture.then(run, calls), instance));
    }

    /** The message must be as good as lost: its receiver does nothing with it. */
    void nothing(String what, int n, Picture.Run run, int... m) {
        List<String> lost = Picture.withSequels(n, Picture.then(run, x -> drop(x, m[0], m[1], m[2], m[3])), m[3]);
        same(what, lost, Picture.withSequels(n, Picture.then(run, x -> pass(x, m[0], m[1], m[2], m[3])), m[3]));
    }

    /** The message must bring a COMMIT back, which is the last one then, and nothing else. */
    void commitBackAlone(String what, int n, Picture.Run run, int... m) {
        List<String> lost = Picture.withSequels(n, Picture.then(run, x -> drop(x, m[0], m[1], m[2], m[3])), m[3]);
        same(what, lost, Picture.withSequels(n, Picture.then(run, x -> {
            int before = x.waiting();
            pass(x, m[0], m[1], m[2], m[3]);
            due(what + ": one came back", x.waiting(), before);
            due(what + ": a COMMIT", x.message(before - 1), number(Kinds.COMMIT, m[2], m[1], m[3]));
            x.lose(before - 1);
        }), m[3]));
    }

    /** Two pictures; the first difference is enough to tell. */
    void same(String what, List<String> due, List<String> got) {
        for (int line = 0; line < due.size(); line++) {
            if (!due.get(line).equals(got.get(line))) {
                tell(what + ": " + got.get(line) + " was answered, due is " + due.get(line));
                return;
            }
        }
    }

    static void deliverAll(LeaderlessMap x) {
        for (int k = 0; k < 200 && x.deliver(0) >= 0; k++) {
            continue;
        }
    }

    static void loseAll(LeaderlessMap x) {
        for (int k = 0; k < 40 && x.lose(0); k++) {
            continue;
        }
    }

    static void loseAllBut(LeaderlessMap x, int kept) {
        for (int k = x.waiting() - 1; k >= 0; k--) {
            if (x.message(k) != kept) {
                x.lose(k);
            }
        }
    }

    void end() {
        System.out.println(test + (wrong == 0 ? ": all answers are as due" : ": " + wrong + " answers are not as due"));
        if (wrong != 0) {
            System.exit(1);
        }
    }
}
