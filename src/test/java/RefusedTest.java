import java.util.Arrays;

/**
 * 'What is refused changes nothing': each call that can be refused, for each reason, in objects that have much under
 * way; and arguments at and beyond their bounds up to the least and the greatest int, for every call.
 */
public final class RefusedTest implements Kinds {
    private static final Check CHECK = new Check("RefusedTest");
    private static final int MIN = Integer.MIN_VALUE;
    private static final int MAX = Integer.MAX_VALUE;
    private static final int[] VALUES = {MIN, -1, 0, 1, MAX};
    /** What is too small or too large for any argument but n and v; some would pass if they wrapped round or were cut. */
    private static final int[] NEVER = {MIN, MIN + 1, -65536, -256, -32, -30, -6, -1, 41, 64, 256, 65536, 1 << 30, MAX - 1, MAX};

    public static void main(String[] args) {
        for (int n : new int[] {3, 5}) {
            proposeRefused(n);
            proposeRefusedWhenNoneIsLeft(n);
            prepareRefused(n);
            deliverRefused(n);
            loseRefused(n);
            crashRefused(n);
            executeRefused(n);
            looksRefused(n);
            looksChangeNothing(n);
            valuesAtTheirEnds(n);
        }
        sizesAtTheirEnds();
        CHECK.end();
    }

    /** The never valid ones and those next to the bound. */
    private static int[] wrong(int bound) {
        int[] all = Arrays.copyOf(NEVER, NEVER.length + 3);
        all[NEVER.length] = bound;
        all[NEVER.length + 1] = bound + 1;
        all[NEVER.length + 2] = 40;
        return all;
    }

    /**
     * Something of everything: 0 is EXECUTED at replica 0 and COMMITTED elsewhere, 6 is PREACCEPTED, 1 is ACCEPTED, 2
     * is COMMITTED at replica 0 alone, replica 2 prepares 3, and a message of each kind is under way.
     */
    private static void busy(LeaderlessMap x, int n) {
        x.propose(0, 0, true, MIN);
        for (int k = 0; k < 40 && x.deliver(0) >= 0; k++) {
            continue;
        }
        CHECK.due("executed", x.execute(0), 1);
        x.propose(1, 0, true, 5);
        x.propose(1, 1, false, 5);
        CHECK.pass(x, PREACCEPT, 1, 2, 6);
        x.prepare(2, 1);
        for (int step = 1; step <= n / 2; step++) {
            CHECK.ask(x, PREPARE, 2, (2 + step) % n, 1);
        }
        CHECK.pass(x, ACCEPT, 2, 0, 1);
        x.prepare(2, 3);
        CHECK.pass(x, PREPARE, 2, 1, 3);
        x.propose(0, 3, true, 1);
        for (int step = 1; step <= n - 2; step++) {
            CHECK.ask(x, PREACCEPT, 0, step, 2);
        }
    }

    private static Picture.Run busyRun(int n) {
        return x -> busy(x, n);
    }

    /** The same, but the last F have crashed. */
    private static Picture.Run crashedRun(int n) {
        return x -> {
            busy(x, n);
            for (int r = n - 1; r > n - 1 - n / 2; r--) {
                CHECK.due("crash", x.crash(r), true);
            }
        };
    }

    /** 40 messages under way and some lost. */
    private static void full(LeaderlessMap x, int n) {
        for (int i = 0; i < 6 * n && x.lost() == 0; i++) {
            x.prepare(i % n, i);
        }
        for (int i = 0; i < 6 * n && x.lost() == 0; i++) {
            x.prepare((i + 1) % n, i);
        }
        CHECK.due("40 under way", x.waiting(), 40);
    }

    private static Picture.Run fullRun(int n) {
        return x -> full(x, n);
    }

    private static void proposeRefused(int n) {
        CHECK.sentence("Promise 2: -1, refused, if there is no such replica or key, it crashed");
        CHECK.unchanged("no such replica", n, busyRun(n), 6, x -> {
            for (int r : wrong(n)) {
                CHECK.due("propose by " + r, x.propose(r, 3, true, 7), -1);
                CHECK.due("propose by " + r, x.propose(r, 0, false, MIN), -1);
            }
        });
        CHECK.unchanged("no such key", n, busyRun(n), 6, x -> {
            for (int key : wrong(4)) {
                CHECK.due("propose for key " + key, x.propose(n - 1, key, true, MAX), -1);
                CHECK.due("propose for key " + key, x.propose(0, key, false, 7), -1);
            }
        });
        CHECK.unchanged("neither", n, busyRun(n), 6, x -> {
            for (int end : new int[] {MIN, -1, MAX}) {
                CHECK.due("propose", x.propose(end, end, true, end), -1);
            }
        });
        CHECK.unchanged("it crashed", n, crashedRun(n), 6, x -> {
            for (int key = 0; key < 4; key++) {
                CHECK.due("propose", x.propose(n - 1, key, true, 1), -1);
                CHECK.due("propose", x.propose(n - 1, key, false, 1), -1);
            }
            CHECK.due("propose with no such key", x.propose(n - 1, 4, true, 1), -1);
        });
        CHECK.unchanged("while 40 are under way", n, fullRun(n), 6, x -> {
            CHECK.due("propose", x.propose(n, 0, true, 1), -1);
            CHECK.due("propose", x.propose(0, 4, true, 1), -1);
        });
    }

    private static void proposeRefusedWhenNoneIsLeft(int n) {
        CHECK.sentence("Promise 2: -1, refused, if there is no such instance left");
        CHECK.unchanged("all six are its own", n, x -> {
            for (int step = 0; step < 6; step++) {
                CHECK.due("propose", x.propose(n - 1, step % 4, true, 1), 6 * (n - 1) + step);
            }
        }, 6 * n - 1, x -> {
            for (int key = 0; key < 4; key++) {
                CHECK.due("a seventh", x.propose(n - 1, key, key % 2 == 0, 1), -1);
            }
        });
        CHECK.unchanged("two are its own, two promised, two settled", n, x -> {
            x.prepare(1, 10);
            x.prepare(2, 11);
            for (int k = 0; k < 60 && x.deliver(0) >= 0; k++) {
                continue;
            }
            CHECK.due("10 is settled", x.state(1, 10), 3);
            CHECK.due("11 is settled", x.state(1, 11), 3);
            x.prepare(1, 6);
            x.prepare(0, 7);
            CHECK.pass(x, PREPARE, 0, 1, 7);
            CHECK.due("6 is promised and UNKNOWN", x.promised(1, 6) * 10 + x.state(1, 6), 10);
            CHECK.due("7 is promised and UNKNOWN", x.promised(1, 7) * 10 + x.state(1, 7), n * 10);
            CHECK.due("8 is the least", x.propose(1, 0, true, 1), 8);
            CHECK.due("9 is the last", x.propose(1, 0, true, 1), 9);
        }, 8, x -> CHECK.due("no more", x.propose(1, 0, true, 1), -1));
    }

    private static void prepareRefused(int n) {
        CHECK.sentence("Promise 3: -1, refused, if there is no such replica or instance, r crashed, or the entry is settled");
        CHECK.unchanged("no such replica", n, busyRun(n), 3, x -> {
            for (int r : wrong(n)) {
                CHECK.due("prepare by " + r, x.prepare(r, 3), -1);
                CHECK.due("prepare by " + r, x.prepare(r, r), -1);
            }
        });
        CHECK.unchanged("no such instance", n, busyRun(n), 3, x -> {
            for (int i : wrong(6 * n)) {
                CHECK.due("prepare of " + i, x.prepare(0, i), -1);
                CHECK.due("prepare of " + i, x.prepare(n - 1, i), -1);
            }
        });
        CHECK.unchanged("r crashed", n, crashedRun(n), 3, x -> {
            for (int i = 0; i < 6 * n; i++) {
                CHECK.due("prepare of " + i, x.prepare(n - 1, i), -1);
            }
        });
        CHECK.unchanged("the entry is EXECUTED or COMMITTED", n, busyRun(n), 0, x -> {
            for (int r = 0; r < n; r++) {
                CHECK.due("state at " + r, x.state(r, 0), r == 0 ? 4 : 3);
                CHECK.due("prepare by " + r, x.prepare(r, 0), -1);
            }
        });
        CHECK.unchanged("while 40 are under way", n, fullRun(n), 3, x -> {
            CHECK.due("prepare", x.prepare(n, 0), -1);
            CHECK.due("prepare", x.prepare(0, 6 * n), -1);
        });
    }

    private static void deliverRefused(int n) {
        CHECK.sentence("Promise 4: -1 if there is no such message");
        CHECK.unchanged("none is under way", n, x -> x.crash(0), 3, x -> {
            for (int k : wrong(0)) {
                CHECK.due("deliver(" + k + ")", x.deliver(k), -1);
            }
        });
        CHECK.unchanged("some are under way", n, busyRun(n), 3, x -> {
            for (int k : wrong(x.waiting())) {
                CHECK.due("deliver(" + k + ")", x.deliver(k), -1);
            }
        });
        CHECK.unchanged("40 are under way", n, fullRun(n), 3, x -> {
            for (int k : wrong(40)) {
                CHECK.due("deliver(" + k + ")", x.deliver(k), -1);
            }
        });
    }

    private static void loseRefused(int n) {
        CHECK.sentence("Promise 5: false if there is no such message");
        CHECK.unchanged("none is under way", n, x -> x.crash(0), 3, x -> {
            for (int k : wrong(0)) {
                CHECK.due("lose(" + k + ")", x.lose(k), false);
            }
        });
        CHECK.unchanged("some are under way", n, busyRun(n), 3, x -> {
            for (int k : wrong(x.waiting())) {
                CHECK.due("lose(" + k + ")", x.lose(k), false);
            }
        });
        CHECK.unchanged("40 are under way", n, fullRun(n), 3, x -> {
            for (int k : wrong(40)) {
                CHECK.due("lose(" + k + ")", x.lose(k), false);
            }
        });
    }

    private static void crashRefused(int n) {
        CHECK.sentence("Promise 6: false if there is no such replica, it has crashed, or F have");
        CHECK.unchanged("no such replica", n, busyRun(n), 3, x -> {
            for (int r : wrong(n)) {
                CHECK.due("crash(" + r + ")", x.crash(r), false);
            }
        });
        CHECK.unchanged("it has crashed", n, y -> {
            busy(y, n);
            y.crash(1);
        }, 3, x -> {
            CHECK.due("crash again", x.crash(1), false);
            CHECK.due("and again", x.crash(1), false);
        });
        CHECK.unchanged("F have", n, crashedRun(n), 3, x -> {
            for (int r = 0; r < n; r++) {
                CHECK.due("crash(" + r + ")", x.crash(r), false);
            }
        });
        LeaderlessMap z = new LeaderlessMap(n);
        for (int r = 0; r < n / 2; r++) {
            CHECK.due("no such replica", z.crash(n), false);
            CHECK.due("a refused one does not count among the F", z.crash(r), true);
            CHECK.due("it has crashed", z.crash(r), false);
        }
        CHECK.due("F have", z.crash(n - 1), false);
        CHECK.due("the one that was refused works on", z.propose(n - 1, 0, true, 1), 6 * (n - 1));
    }

    private static void executeRefused(int n) {
        CHECK.sentence("Promise 7: -1 if there is no such replica or it crashed");
        CHECK.unchanged("no such replica", n, busyRun(n), 3, x -> {
            for (int r : wrong(n)) {
                CHECK.due("execute(" + r + ")", x.execute(r), -1);
            }
        });
        CHECK.unchanged("it crashed", n, crashedRun(n), 3, x -> {
            CHECK.due("it has something COMMITTED", x.state(n - 1, 0), 3);
            CHECK.due("execute", x.execute(n - 1), -1);
            CHECK.due("execute", x.execute(n - 1), -1);
        });
        CHECK.unchanged("nothing to execute", n, busyRun(n), 3, x -> CHECK.due("execute", x.execute(0), 0));
    }

    private static void looksRefused(int n) {
        CHECK.sentence("Promises 9 and 11 to 18: if there is no such replica, instance, key or message");
        CHECK.unchanged("looks at nothing", n, busyRun(n), 3, x -> {
            for (int r : wrong(n)) {
                looksAtNothing(x, r, 0);
                CHECK.due("value(" + r + ", 0)", x.value(r, 0), 0);
            }
        });
        CHECK.unchanged("looks at nothing", n, busyRun(n), 3, x -> {
            for (int i : wrong(6 * n)) {
                looksAtNothing(x, 0, i);
            }
        });
        CHECK.unchanged("looks at nothing", n, busyRun(n), 3, x -> {
            for (int end : new int[] {MIN, -1, MAX}) {
                looksAtNothing(x, end, end);
                CHECK.due("value of neither", x.value(end, end), 0);
            }
            for (int key : wrong(4)) {
                CHECK.due("value of key " + key, x.value(0, key), 0);
            }
            for (int k : wrong(x.waiting())) {
                CHECK.due("message(" + k + ")", x.message(k), -1);
            }
        });
    }

    private static void looksAtNothing(LeaderlessMap x, int r, int i) {
        String at = "(" + r + ", " + i + ")";
        CHECK.due("state" + at, x.state(r, i), -1);
        CHECK.due("command" + at, x.command(r, i), -1);
        CHECK.due("seq" + at, x.seq(r, i), -1);
        CHECK.due("deps" + at, x.deps(r, i), -1);
        CHECK.due("promised" + at, x.promised(r, i), -1);
        CHECK.due("result" + at, x.result(r, i), 0);
        CHECK.due("place" + at, x.place(r, i), -1);
    }

    private static void looksChangeNothing(int n) {
        CHECK.sentence("Promises 8 to 18: the calls that look change nothing");
        for (int replica = 0; replica < n; replica++) {
            int r = replica;
            CHECK.unchanged("looks at " + r, n, busyRun(n), 3, x -> {
                for (int i = 0; i < 6; i++) {
                    int sum = x.state(r, i) + x.command(r, i) + x.seq(r, i) + x.deps(r, i) + x.promised(r, i);
                    CHECK.due("a look", sum + x.result(r, i) + x.place(r, i) < MAX, true);
                }
                CHECK.due("a look", x.waiting() + x.lost() + x.message(0) + x.value(r, r % 4) < MAX, true);
            });
        }
    }

    private static void valuesAtTheirEnds(int n) {
        CHECK.sentence("PUT of a key and an int: the least and the greatest int too, wherever the command goes");
        for (int v : VALUES) {
            LeaderlessMap x = new LeaderlessMap(n);
            x.propose(0, 2, true, v);
            CHECK.entry("a PUT like any other", x, 0, 0, 1, 6, 1, 0, 0);
            Check.loseAll(x);
            x.prepare(1, 0);
            Check.deliverAll(x);
            CHECK.entry("finished by another", x, 2, 0, 3, 6, 1, 0, 1);
            x.propose(1, 2, true, -v);
            x.propose(1, 2, false, v);
            Check.deliverAll(x);
            for (int r = 0; r < n; r++) {
                CHECK.due("all three at " + r, x.execute(r), 3);
                CHECK.due("the value before all", x.result(r, 0), 0);
                CHECK.due("the value before the second PUT", x.result(r, 6), v);
                CHECK.due("GET", x.result(r, 7), -v);
                CHECK.due("value", x.value(r, 2), -v);
            }
        }
        for (int v : VALUES) {
            LeaderlessMap x = new LeaderlessMap(n);
            CHECK.due("a GET takes any v and does not use it", x.propose(0, 1, false, v), 0);
            Check.deliverAll(x);
            CHECK.due("executed", x.execute(0), 1);
            CHECK.due("result", x.result(0, 0), 0);
            CHECK.due("value", x.value(0, 1), 0);
        }
    }

    private static void sizesAtTheirEnds() {
        CHECK.sentence("Promise 1: 3 replicas if n is below 4, else 5");
        for (int n : new int[] {MIN, MIN + 1, -5, -4, -3, -1, 0, 1, 2}) {
            CHECK.same("n is " + n, Picture.withSequels(3, busyRun(3), 3), Picture.withSequels(n, busyRun(3), 3));
        }
        for (int n : new int[] {4, 6, 7, 256 + 3, 65536 + 3, MAX - 1, MAX}) {
            CHECK.same("n is " + n, Picture.withSequels(5, busyRun(5), 3), Picture.withSequels(n, busyRun(5), 3));
        }
    }
}
