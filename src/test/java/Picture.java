import java.util.ArrayList;
import java.util.List;

/** All that an object shows after a run of calls, so that two runs can be compared as a whole. */
final class Picture {
    interface Run {
        void play(LeaderlessMap x);
    }

    private Picture() {
    }

    static Run then(Run first, Run second) {
        return x -> {
            first.play(x);
            second.play(x);
        };
    }

    /** One line for each call that looks. The run is played anew every now and then, as an object is good for 512 calls. */
    static List<String> of(int n, Run run) {
        List<String> lines = new ArrayList<>();
        addMessages(lines, played(n, run));
        for (int r = 0; r < sizeFor(n); r++) {
            for (int first = 0; first < 6 * sizeFor(n); first += 6) {
                addEntries(lines, played(n, run), r, first);
            }
        }
        return lines;
    }

    /**
     * What the object shows, and what it does next: if all messages come in order, and if all are lost and some
     * replica prepares the instance. So differences come to light that no call shows at once: VOTED, an attempt, what
     * a message says.
     */
    static List<String> withSequels(int n, Run run, int instance) {
        List<String> lines = new ArrayList<>(of(n, run));
        lines.addAll(of(n, then(run, x -> finish(x, sizeFor(n)))));
        for (int q = 0; q < sizeFor(n); q++) {
            int preparer = q;
            lines.add("then all is lost and " + preparer + " prepares " + instance);
            lines.addAll(of(n, then(run, x -> {
                Check.loseAll(x);
                x.prepare(preparer, instance);
                finish(x, sizeFor(n));
            })));
        }
        return lines;
    }

    static int sizeFor(int n) {
        return n < 4 ? 3 : 5;
    }

    private static void finish(LeaderlessMap x, int size) {
        for (int k = 0; k < 90 && x.deliver(0) >= 0; k++) {
            continue;
        }
        for (int r = 0; r < size; r++) {
            x.execute(r);
        }
    }

    private static LeaderlessMap played(int n, Run run) {
        LeaderlessMap x = new LeaderlessMap(n);
        run.play(x);
        return x;
    }

    private static void addMessages(List<String> lines, LeaderlessMap x) {
        lines.add("waiting() " + x.waiting());
        lines.add("lost() " + x.lost());
        for (int k = 0; k <= 40; k++) {
            lines.add("message(" + k + ") " + x.message(k));
        }
    }

    private static void addEntries(List<String> lines, LeaderlessMap x, int r, int first) {
        for (int i = first; i < first + 6; i++) {
            String at = "(" + r + ", " + i + ") ";
            lines.add("state" + at + x.state(r, i));
            lines.add("command" + at + x.command(r, i));
            lines.add("seq" + at + x.seq(r, i));
            lines.add("deps" + at + x.deps(r, i));
            lines.add("promised" + at + x.promised(r, i));
            lines.add("result" + at + x.result(r, i));
            lines.add("place" + at + x.place(r, i));
        }
        for (int key = 0; key < 4; key++) {
            lines.add("value(" + r + ", " + key + ") " + x.value(r, key));
        }
    }
}
