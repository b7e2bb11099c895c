import java.util.Random;
import java.util.TreeMap;

/** Made-up runs of at most 512 calls, the same ones every time; each answer is compared with PlainModel's. */
public final class ModelTest {
    private static final Check CHECK = new Check("ModelTest");
    private static final int RUNS = 1500;
    private static final int CALLS = 512;
    private static final String[] LOOKS = {"state", "command", "seq", "deps", "promised", "result", "place"};
    private static final String[] RULES = {
        "(1)", "(1) of several", "(2) of 3", "(2) of 5", "(2) of 5 with others", "(3) of 3", "(3) of 5", "(4) of 3", "(4) of 5",
        "ACCEPT below", "ACCEPTOK does not count", "COMMIT back for ACCEPT", "COMMIT back for PREACCEPT", "COMMIT back for PREPARE",
        "COMMIT of a settled one", "PREACCEPT after its ACCEPT", "PREACCEPT below", "PREACCEPT over ACCEPTED",
        "PREACCEPTOK does not count", "PREPARE below", "PREPARE equal", "PROMISE does not count", "accepting after 2 of 5",
        "accepting after 3 of 5", "accepting, not fast", "accepting, not fast, unlike", "component of one", "component of several",
        "component waits", "fast commit", "lost", "slow commit"};

    private final Random random;
    private final LeaderlessMap x;
    private final PlainModel model;
    private final String name;
    /** What this run likes to do: how often it proposes, prepares, loses, executes, out of 100. */
    private final int proposes;
    private final int prepares;
    private final int losses;
    private final int hotInstances;
    private final int hotKeys;
    private final boolean inOrder;
    private int calls;

    private ModelTest(int run) {
        random = new Random(run * 7919L + 17);
        int n = run % 2 == 0 ? 3 : 5;
        name = "run " + run + ", ";
        x = new LeaderlessMap(n);
        model = new PlainModel(n);
        proposes = 3 + random.nextInt(25);
        prepares = random.nextInt(20);
        losses = random.nextInt(12);
        boolean contended = random.nextInt(3) == 0;
        hotInstances = 1 + random.nextInt(contended ? 2 : 6 * n);
        hotKeys = 1 + random.nextInt(4);
        inOrder = random.nextInt(3) == 0;
    }

    public static void main(String[] args) {
        TreeMap<String, Integer> used = new TreeMap<>();
        for (int run = 0; run < RUNS; run++) {
            ModelTest test = new ModelTest(run);
            test.play();
            test.model.used.forEach((rule, times) -> used.merge(rule, times, Integer::sum));
        }
        for (String rule : RULES) {
            CHECK.due("the runs come to '" + rule + "' often enough", used.getOrDefault(rule, 0) >= 20, true);
        }
        CHECK.end();
    }

    private void play() {
        while (calls < CALLS - 60) {
            act();
            if (random.nextInt(3) == 0) {
                look();
            }
        }
        while (calls < CALLS) {
            look();
        }
    }

    private void due(String call, long got, long want) {
        calls++;
        CHECK.due(name + "call " + calls + ": " + call, got, want);
    }

    /** Mostly within the bound, at times just outside or far away. */
    private int about(int bound) {
        int luck = random.nextInt(60);
        if (luck == 0) {
            return random.nextInt();
        }
        return luck == 1 ? random.nextInt(3) - 1 + bound : luck == 2 ? -1 : random.nextInt(Math.max(bound, 1));
    }

    private int anInstance() {
        return random.nextInt(4) == 0 ? about(6 * model.n) : about(hotInstances);
    }

    private void act() {
        int luck = random.nextInt(100);
        if (luck < proposes) {
            int r = about(model.n);
            int key = random.nextInt(3) == 0 ? about(4) : about(hotKeys);
            boolean put = random.nextInt(3) != 0;
            int v = random.nextInt();
            due("propose(" + r + ", " + key + ", " + put + ", " + v + ")", x.propose(r, key, put, v), model.propose(r, key, put, v));
        } else if (luck < proposes + prepares) {
            int r = about(model.n);
            int i = anInstance();
            due("prepare(" + r + ", " + i + ")", x.prepare(r, i), model.prepare(r, i));
        } else if (luck < proposes + prepares + losses) {
            int k = about(model.line.size());
            due("lose(" + k + ")", x.lose(k) ? 1 : 0, model.lose(k) ? 1 : 0);
        } else if (luck >= 95) {
            int r = about(model.n);
            due("execute(" + r + ")", x.execute(r), model.execute(r));
        } else if (luck == 94 && random.nextInt(4) == 0) {
            int r = about(model.n);
            due("crash(" + r + ")", x.crash(r) ? 1 : 0, model.crash(r) ? 1 : 0);
        } else {
            int k = inOrder ? 0 : about(model.line.size());
            due("deliver(" + k + ")", x.deliver(k), model.deliver(k));
        }
    }

    private void look() {
        int luck = random.nextInt(11);
        if (luck == 0) {
            due("waiting()", x.waiting(), model.line.size());
        } else if (luck == 1) {
            due("lost()", x.lost(), model.lost);
        } else if (luck == 2) {
            int k = about(model.line.size());
            due("message(" + k + ")", x.message(k), model.message(k));
        } else if (luck == 3) {
            int r = about(model.n);
            int key = about(4);
            due("value(" + r + ", " + key + ")", x.value(r, key), model.value(r, key));
        } else {
            String call = LOOKS[luck - 4];
            int r = about(model.n);
            int i = anInstance();
            due(call + "(" + r + ", " + i + ")", answer(call, r, i), model.look(call, r, i));
        }
    }

    private int answer(String call, int r, int i) {
        return switch (call) {
            case "state" -> x.state(r, i);
            case "command" -> x.command(r, i);
            case "seq" -> x.seq(r, i);
            case "deps" -> x.deps(r, i);
            case "promised" -> x.promised(r, i);
            case "result" -> x.result(r, i);
            default -> x.place(r, i);
        };
    }
}
