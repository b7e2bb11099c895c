import java.util.ArrayList;
import java.util.List;
import java.util.Set;
import java.util.TreeMap;
import java.util.TreeSet;

/**
 * A second writing of the document, sentence by sentence and without regard for speed, with sets and maps of the
 * Java library. ModelTest compares the program with it.
 */
final class PlainModel {
    record Msg(String kind, int from, int to, int inst, int ballot, Cmd cmd, int seq, Set<Integer> deps, int state, int voted) {
    }

    record Cmd(String what, int key, int v) {
        boolean interferes(Cmd o) {
            if (what.equals("NOTHING") || o.what.equals("NOTHING")) {
                return true;
            }
            boolean onePuts = what.equals("PUT") || o.what.equals("PUT");
            return key == o.key && onePuts;
        }
    }

    static final List<String> KINDS = List.of("PREACCEPT", "PREACCEPTOK", "ACCEPT", "ACCEPTOK", "COMMIT", "PREPARE", "PROMISE");

    static final class Cell {
        int state;
        Cmd cmd;
        int seq;
        Set<Integer> deps = Set.of();
        int promised;
        int voted;
        int result;
        int place;
        String phase = "";
        int attemptBallot;
        boolean fast;
        List<Msg> replies = new ArrayList<>();

        boolean settled() {
            return state >= 3;
        }

        boolean aliveIn(String wanted, int ballot) {
            return phase.equals(wanted) && attemptBallot == ballot && ballot == promised && !settled();
        }

        void set(int newState, Cmd c, int s, Set<Integer> d) {
            state = newState;
            cmd = c;
            seq = s;
            deps = d;
        }
    }

    final int n;
    final int f;
    final TreeMap<Integer, TreeMap<Integer, Cell>> cells = new TreeMap<>();
    final TreeMap<Integer, TreeMap<Integer, Integer>> maps = new TreeMap<>();
    final Set<Integer> crashed = new TreeSet<>();
    final List<Msg> line = new ArrayList<>();
    int lost;
    /** How often each rule was used, so that the test can see that its runs come everywhere. */
    final TreeMap<String, Integer> used = new TreeMap<>();

    PlainModel(int given) {
        n = given < 4 ? 3 : 5;
        f = (n - 1) / 2;
        for (int r = 0; r < n; r++) {
            cells.put(r, new TreeMap<>());
            maps.put(r, new TreeMap<>());
            for (int i = 0; i < 6 * n; i++) {
                cells.get(r).put(i, new Cell());
            }
            for (int k = 0; k < 4; k++) {
                maps.get(r).put(k, 0);
            }
        }
    }

    private void use(String rule) {
        used.merge(rule, 1, Integer::sum);
    }

    private void send(Msg m) {
        if (line.size() == 40) {
            lost++;
            use("lost");
        } else {
            line.add(m);
        }
    }

    private void sendAll(String kind, int from, int inst, int ballot, Cell e) {
        for (int to = 0; to < n; to++) {
            if (to != from) {
                send(new Msg(kind, from, to, inst, ballot, e.cmd, e.seq, e.deps, 0, 0));
            }
        }
    }

    private Set<Integer> related(int r, int i, Cmd c) {
        Set<Integer> found = new TreeSet<>();
        cells.get(r).forEach((j, e) -> {
            if (j != i && e.state != 0 && e.cmd.interferes(c)) {
                found.add(j);
            }
        });
        return found;
    }

    private void preacceptFitted(int r, int i, Cmd c, int s, Set<Integer> d) {
        Set<Integer> rel = related(r, i, c);
        int seq = s;
        for (int j : rel) {
            seq = Math.max(seq, cells.get(r).get(j).seq + 1);
        }
        Set<Integer> deps = new TreeSet<>(d);
        deps.addAll(rel);
        cells.get(r).get(i).set(1, c, seq, deps);
    }

    int propose(int r, int key, boolean put, int v) {
        if (r < 0 || r >= n || key < 0 || key > 3 || crashed.contains(r)) {
            return -1;
        }
        for (int i = 6 * r; i <= 6 * r + 5; i++) {
            Cell e = cells.get(r).get(i);
            if (e.state == 0 && e.promised == 0) {
                preacceptFitted(r, i, new Cmd(put ? "PUT" : "GET", key, put ? v : 0), 1, Set.of());
                e.phase = "preaccepting";
                e.fast = true;
                e.attemptBallot = 0;
                e.replies.clear();
                for (int to = r + 1; to <= r + n - 2; to++) {
                    send(new Msg("PREACCEPT", r, to % n, i, 0, e.cmd, e.seq, e.deps, 0, 0));
                }
                return i;
            }
        }
        return -1;
    }

    int prepare(int r, int i) {
        if (r < 0 || r >= n || i < 0 || i >= 6 * n || crashed.contains(r) || cells.get(r).get(i).settled()) {
            return -1;
        }
        Cell e = cells.get(r).get(i);
        int b = e.promised + 1;
        while (b % n != r) {
            b++;
        }
        e.promised = b;
        e.phase = "preparing";
        e.attemptBallot = b;
        e.fast = false;
        e.replies.clear();
        for (int to = 0; to < n; to++) {
            if (to != r) {
                send(new Msg("PREPARE", r, to, i, b, null, 0, null, 0, 0));
            }
        }
        return b;
    }

    boolean lose(int k) {
        if (k < 0 || k >= line.size()) {
            return false;
        }
        line.remove(k);
        return true;
    }

    boolean crash(int r) {
        return r >= 0 && r < n && crashed.size() < f && crashed.add(r);
    }

    int deliver(int k) {
        if (k < 0 || k >= line.size()) {
            return -1;
        }
        Msg m = line.remove(k);
        if (!crashed.contains(m.to)) {
            handle(m, cells.get(m.to).get(m.inst));
        }
        return KINDS.indexOf(m.kind);
    }

    private void handle(Msg m, Cell e) {
        boolean asks = Set.of("PREACCEPT", "ACCEPT", "PREPARE").contains(m.kind);
        if (asks && e.settled()) {
            use("COMMIT back for " + m.kind);
            send(new Msg("COMMIT", m.to, m.from, m.inst, 0, e.cmd, e.seq, e.deps, 0, 0));
            return;
        }
        switch (m.kind) {
            case "PREACCEPT" -> preaccept(m, e);
            case "PREACCEPTOK" -> preacceptOk(m, e);
            case "ACCEPT" -> accept(m, e);
            case "ACCEPTOK" -> acceptOk(m, e);
            case "COMMIT" -> {
                if (!e.settled()) {
                    e.set(3, m.cmd, m.seq, m.deps);
                } else {
                    use("COMMIT of a settled one");
                }
            }
            case "PREPARE" -> {
                if (m.ballot > e.promised) {
                    e.promised = m.ballot;
                    send(new Msg("PROMISE", m.to, m.from, m.inst, m.ballot, e.cmd, e.seq, e.deps, e.state, e.voted));
                } else {
                    use(m.ballot == e.promised ? "PREPARE equal" : "PREPARE below");
                }
            }
            default -> promise(m, e);
        }
    }

    private void preaccept(Msg m, Cell e) {
        if (m.ballot < e.promised) {
            use("PREACCEPT below");
        } else if (e.state == 2 && e.voted == m.ballot) {
            use("PREACCEPT after its ACCEPT");
        } else {
            if (e.state == 2) {
                use("PREACCEPT over ACCEPTED");
            }
            e.promised = m.ballot;
            e.voted = m.ballot;
            preacceptFitted(m.to, m.inst, m.cmd, m.seq, m.deps);
            send(new Msg("PREACCEPTOK", m.to, m.from, m.inst, m.ballot, null, e.seq, e.deps, 0, 0));
        }
    }

    private void preacceptOk(Msg m, Cell e) {
        if (!e.aliveIn("preaccepting", m.ballot)) {
            use("PREACCEPTOK does not count");
            return;
        }
        e.replies.add(m);
        boolean same = e.replies.stream().allMatch(o -> o.seq == m.seq && o.deps.equals(m.deps));
        if (e.fast && e.replies.size() == n - 2 && same) {
            use("fast commit");
            commitHere(m.to, m.inst, e, m.seq, m.deps);
        } else if (e.replies.size() >= f && (!e.fast || !same)) {
            use(e.fast ? "accepting after " + e.replies.size() + " of " + n : "accepting, not fast" + (same ? "" : ", unlike"));
            int greatest = e.replies.stream().mapToInt(Msg::seq).max().getAsInt();
            Set<Integer> all = new TreeSet<>();
            e.replies.forEach(o -> all.addAll(o.deps));
            acceptingBegins(m.to, m.inst, e, e.cmd, greatest, all);
        }
    }

    private void accept(Msg m, Cell e) {
        if (m.ballot < e.promised) {
            use("ACCEPT below");
            return;
        }
        e.promised = m.ballot;
        e.voted = m.ballot;
        e.set(2, m.cmd, m.seq, m.deps);
        send(new Msg("ACCEPTOK", m.to, m.from, m.inst, m.ballot, null, 0, null, 0, 0));
    }

    private void acceptOk(Msg m, Cell e) {
        if (!e.aliveIn("accepting", m.ballot)) {
            use("ACCEPTOK does not count");
            return;
        }
        e.replies.add(m);
        if (e.replies.size() == f) {
            use("slow commit");
            commitHere(m.to, m.inst, e, e.seq, e.deps);
        }
    }

    private void promise(Msg m, Cell e) {
        if (!e.aliveIn("preparing", m.ballot)) {
            use("PROMISE does not count");
            return;
        }
        e.replies.add(m);
        if (e.replies.size() < f) {
            return;
        }
        List<Msg> all = new ArrayList<>(e.replies);
        all.add(new Msg("PROMISE", m.to, m.to, m.inst, m.ballot, e.cmd, e.seq, e.deps, e.state, e.voted));
        List<Msg> accepted = all.stream().filter(p -> p.state == 2).toList();
        List<Msg> early = all.stream().filter(p -> p.state == 1 && p.voted == 0 && p.from != p.inst / 6).toList();
        List<Msg> alike = early.stream()
            .filter(p -> early.stream().filter(q -> q.seq == p.seq && q.deps.equals(p.deps)).count() >= f).toList();
        List<Msg> preaccepted = all.stream().filter(p -> p.state == 1).toList();
        if (!accepted.isEmpty()) {
            Msg best = accepted.stream().max((p, q) -> Integer.compare(p.voted, q.voted)).get();
            use(accepted.stream().anyMatch(p -> p.voted != best.voted) ? "(1) of several" : "(1)");
            acceptingBegins(m.to, m.inst, e, best.cmd, best.seq, best.deps);
        } else if (!alike.isEmpty()) {
            use("(2) of " + n + (alike.size() < preaccepted.size() ? " with others" : ""));
            acceptingBegins(m.to, m.inst, e, alike.get(0).cmd, alike.get(0).seq, alike.get(0).deps);
        } else if (!preaccepted.isEmpty()) {
            use("(3) of " + n);
            preacceptFitted(m.to, m.inst, preaccepted.get(0).cmd, 1, Set.of());
            e.voted = m.ballot;
            e.phase = "preaccepting";
            e.fast = false;
            e.replies.clear();
            sendAll("PREACCEPT", m.to, m.inst, m.ballot, e);
        } else {
            use("(4) of " + n);
            acceptingBegins(m.to, m.inst, e, new Cmd("NOTHING", 0, 0), 0, Set.of());
        }
    }

    private void acceptingBegins(int r, int i, Cell e, Cmd c, int s, Set<Integer> d) {
        e.set(2, c, s, d);
        e.voted = e.attemptBallot;
        e.phase = "accepting";
        e.replies.clear();
        sendAll("ACCEPT", r, i, e.attemptBallot, e);
    }

    private void commitHere(int r, int i, Cell e, int s, Set<Integer> d) {
        e.set(3, e.cmd, s, d);
        sendAll("COMMIT", r, i, 0, e);
    }

    int execute(int r) {
        if (r < 0 || r >= n || crashed.contains(r)) {
            return -1;
        }
        int done = 0;
        for (Set<Integer> next = readyComponent(r); next != null; next = readyComponent(r)) {
            use(next.size() == 1 ? "component of one" : "component of several");
            List<Integer> order = new ArrayList<>(next);
            order.sort((i, j) -> seqOf(r, i) != seqOf(r, j) ? Integer.compare(seqOf(r, i), seqOf(r, j)) : Integer.compare(i, j));
            for (int i : order) {
                run(r, cells.get(r).get(i));
                done++;
            }
        }
        return done;
    }

    private int seqOf(int r, int i) {
        return cells.get(r).get(i).seq;
    }

    private void run(int r, Cell e) {
        e.place = (int) cells.get(r).values().stream().filter(o -> o.state == 4).count();
        e.result = e.cmd.what.equals("NOTHING") ? 0 : maps.get(r).get(e.cmd.key);
        if (e.cmd.what.equals("PUT")) {
            maps.get(r).put(e.cmd.key, e.cmd.v);
        }
        e.state = 4;
    }

    /** All that is reached from i by steps from a COMMITTED instance to a COMMITTED one of its deps, and i. */
    private Set<Integer> reached(int r, int i) {
        Set<Integer> seen = new TreeSet<>(Set.of(i));
        List<Integer> todo = new ArrayList<>(seen);
        while (!todo.isEmpty()) {
            for (int d : cells.get(r).get(todo.remove(0)).deps) {
                if (cells.get(r).get(d).state == 3 && seen.add(d)) {
                    todo.add(d);
                }
            }
        }
        return seen;
    }

    private Set<Integer> readyComponent(int r) {
        TreeMap<Integer, Set<Integer>> reach = new TreeMap<>();
        cells.get(r).forEach((i, e) -> {
            if (e.state == 3) {
                reach.put(i, reached(r, i));
            }
        });
        for (int i : reach.keySet()) {
            Set<Integer> component = new TreeSet<>();
            for (int j : reach.get(i)) {
                if (reach.get(j).contains(i)) {
                    component.add(j);
                }
            }
            boolean ready = component.stream().flatMap(j -> cells.get(r).get(j).deps.stream())
                .allMatch(d -> component.contains(d) || cells.get(r).get(d).state == 4);
            if (ready) {
                return component;
            }
            use("component waits");
        }
        return null;
    }

    int message(int k) {
        if (k < 0 || k >= line.size()) {
            return -1;
        }
        Msg m = line.get(k);
        return KINDS.indexOf(m.kind) + 8 * m.from + 64 * m.to + 512 * m.inst;
    }

    /** The answer of one of the calls that look at an entry. */
    int look(String call, int r, int i) {
        if (r < 0 || r >= n || i < 0 || i >= 6 * n) {
            return call.equals("result") ? 0 : -1;
        }
        Cell e = cells.get(r).get(i);
        return switch (call) {
            case "state" -> e.state;
            case "promised" -> e.promised;
            case "result" -> e.state == 4 ? e.result : 0;
            case "place" -> e.state == 4 ? e.place : -1;
            case "seq" -> e.state == 0 ? -1 : e.seq;
            case "deps" -> e.state == 0 ? -1 : e.deps.stream().mapToInt(d -> 1 << d).sum();
            default -> e.state == 0 ? -1 : List.of("GET", "PUT", "NOTHING").indexOf(e.cmd.what) * 4 + e.cmd.key;
        };
    }

    int value(int r, int key) {
        return r < 0 || r >= n || key < 0 || key > 3 ? 0 : maps.get(r).get(key);
    }
}
