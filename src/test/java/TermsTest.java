/** The edges that the section 'Terms' names, up to the messages' ways; each method begins with the sentence it is about. */
public final class TermsTest implements Kinds {
    private static final Check CHECK = new Check("TermsTest");
    private static final int MIN = Integer.MIN_VALUE;
    private static final int MAX = Integer.MAX_VALUE;

    public static void main(String[] args) {
        for (int n : new int[] {3, 5}) {
            replicaNumbers(n);
            crashedOnesAnswerNothing(n);
            keys(n);
            owners(n);
            firstBallots(n);
            leastBallotAbove(n);
            relatedInEachState(n);
            proposeGoesTo(n);
            allOthersGetPrepare(n);
            allOthersGetAcceptAndCommit(n);
            allOthersGetPreaccept(n);
        }
        crashedReceivers();
        results();
        interference();
        nothingInterferesWithAll();
        highestAndLowestBit();
        notRelated();
        seqOfSeveral();
        newAttempt();
        exactlyForty();
        fortyAndAPartOfThem();
        fortyAndADelivery();
        fortyAndACrashedReceiver();
        whatIsLostNeverComes();
        inTheOrderOfSending();
        CHECK.end();
    }

    private static void replicaNumbers(int n) {
        CHECK.sentence("REPLICAS have the numbers 0 .. n - 1; n is 3 or 5, F is 1 or 2");
        LeaderlessMap x = new LeaderlessMap(n);
        for (int r = 0; r < n; r++) {
            CHECK.due("execute(" + r + ")", x.execute(r), 0);
            CHECK.due("propose by " + r, x.propose(r, 0, false, 0), 6 * r);
            CHECK.due("state at " + r, x.state(r, 6 * r), 1);
        }
        CHECK.due("one too small", x.state(-1, 0), -1);
        CHECK.due("one too large", x.state(n, 0), -1);
        for (int r = n - 1; r > n - 1 - n / 2; r--) {
            CHECK.due("crash(" + r + "), up to F", x.crash(r), true);
        }
        CHECK.due("F + 1 do not", x.crash(0), false);
    }

    private static void crashedOnesAnswerNothing(int n) {
        CHECK.sentence("A CRASHED one does nothing any more");
        LeaderlessMap x = new LeaderlessMap(n);
        x.propose(0, 0, true, 4);
        Check.deliverAll(x);
        x.crash(n - 1);
        CHECK.due("propose", x.propose(n - 1, 0, true, 1), -1);
        CHECK.due("prepare", x.prepare(n - 1, 6), -1);
        CHECK.due("execute", x.execute(n - 1), -1);
        CHECK.entry("what it had stays to be seen", x, n - 1, 0, 3, 4, 1, 0, 0);
        CHECK.due("nothing is under way", x.waiting(), 0);
    }

    /** One message of each kind to a replica that has crashed since, where it would have done something. */
    private static void crashedReceivers() {
        CHECK.sentence("WHAT A REPLICA DOES WITH A MESSAGE (a crashed one nothing)");
        CHECK.nothing("PREACCEPT", 3, x -> {
            x.propose(0, 0, true, 1);
            x.crash(1);
        }, PREACCEPT, 0, 1, 0);
        CHECK.nothing("PREACCEPTOK", 3, x -> {
            x.propose(0, 0, true, 1);
            CHECK.pass(x, PREACCEPT, 0, 1, 0);
            x.crash(0);
        }, PREACCEPTOK, 1, 0, 0);
        CHECK.nothing("ACCEPT", 3, x -> {
            x.prepare(1, 0);
            CHECK.ask(x, PREPARE, 1, 0, 0);
            x.crash(2);
        }, ACCEPT, 1, 2, 0);
        CHECK.nothing("ACCEPTOK", 3, x -> {
            x.prepare(1, 0);
            CHECK.ask(x, PREPARE, 1, 0, 0);
            CHECK.pass(x, ACCEPT, 1, 2, 0);
            x.crash(1);
        }, ACCEPTOK, 2, 1, 0);
        CHECK.nothing("COMMIT", 3, x -> {
            x.propose(0, 0, true, 1);
            CHECK.ask(x, PREACCEPT, 0, 1, 0);
            x.crash(2);
        }, COMMIT, 0, 2, 0);
        CHECK.nothing("PREPARE", 3, x -> {
            x.prepare(1, 0);
            x.crash(2);
        }, PREPARE, 1, 2, 0);
        CHECK.nothing("PROMISE", 3, x -> {
            x.prepare(1, 0);
            CHECK.pass(x, PREPARE, 1, 2, 0);
            x.crash(1);
        }, PROMISE, 2, 1, 0);
        CHECK.nothing("PREPARE, the entry is settled", 3, x -> {
            x.prepare(1, 0);
            x.propose(0, 0, true, 1);
            x.prepare(2, 1);
            CHECK.pass(x, PREPARE, 1, 2, 0);
            CHECK.pass(x, PROMISE, 2, 1, 0);
            CHECK.ask(x, ACCEPT, 1, 2, 0);
            CHECK.pass(x, COMMIT, 1, 0, 0);
            CHECK.due("0 is settled", x.state(0, 0), 3);
            x.crash(0);
        }, PREPARE, 1, 0, 0);
    }

    private static void keys(int n) {
        CHECK.sentence("A replica's MAP has an int for each of the KEYS 0 .. 3, 0 at first");
        LeaderlessMap x = new LeaderlessMap(n);
        int[] written = {MIN, MAX, -1, 1};
        for (int key = 0; key < 4; key++) {
            CHECK.due("at first, key " + key, x.value(n - 1, key), 0);
            CHECK.due("propose for key " + key, x.propose(0, key, true, written[key]), key);
        }
        CHECK.due("key -1", x.propose(0, -1, true, 9), -1);
        CHECK.due("key 4", x.propose(0, 4, true, 9), -1);
        Check.deliverAll(x);
        for (int r = 0; r < n; r++) {
            CHECK.due("execute(" + r + ")", x.execute(r), 4);
            for (int key = 0; key < 4; key++) {
                CHECK.due("key " + key + " at " + r, x.value(r, key), written[key]);
                CHECK.due("result of the first PUT of " + key, x.result(r, key), 0);
            }
            CHECK.due("value of key -1", x.value(r, -1), 0);
            CHECK.due("value of key 4", x.value(r, 4), 0);
        }
    }

    private static void results() {
        CHECK.sentence("GET: the result is its value. PUT: the key gets it, the result is the value before. NOTHING: the result is 0");
        LeaderlessMap x = new LeaderlessMap(3);
        int[] written = {MIN, MAX, 0, -1, MAX, MIN};
        int before = 0;
        for (int step = 0; step < 6; step++) {
            x.propose(0, 2, true, written[step]);
            Check.deliverAll(x);
            x.propose(1, 2, false, 1234);
            Check.deliverAll(x);
            x.prepare(2, 12 + step);
            Check.deliverAll(x);
            CHECK.due("PUT, GET and NOTHING are executed", x.execute(2), 3);
            CHECK.due("PUT " + step, x.result(2, step), before);
            CHECK.due("GET " + step, x.result(2, 6 + step), written[step]);
            CHECK.due("NOTHING is NOTHING", x.command(2, 12 + step), 8);
            CHECK.due("NOTHING " + step, x.result(2, 12 + step), 0);
            CHECK.due("the map keeps what PUT wrote", x.value(2, 2), written[step]);
            CHECK.due("the other keys stay", x.value(2, 0) | x.value(2, 1) | x.value(2, 3), 0);
            before = written[step];
        }
    }

    private static void interference() {
        CHECK.sentence("Two commands INTERFERE if both are about the same key and at least one is a PUT");
        for (int first = 0; first < 8; first++) {
            for (int second = 0; second < 8; second++) {
                LeaderlessMap x = new LeaderlessMap(3);
                x.propose(1, first % 4, first >= 4, 5);
                x.propose(1, second % 4, second >= 4, 5);
                boolean due = first % 4 == second % 4 && (first >= 4 || second >= 4);
                String what = "command " + first + ", then " + second;
                CHECK.entry(what, x, 1, 6, 1, first, 1, 0, 0);
                CHECK.entry(what, x, 1, 7, 1, second, due ? 2 : 1, due ? 1 << 6 : 0, 0);
            }
        }
    }

    private static void nothingInterferesWithAll() {
        CHECK.sentence("NOTHING interferes with every command");
        for (int command = 0; command < 8; command++) {
            LeaderlessMap x = new LeaderlessMap(3);
            x.prepare(0, 17);
            Check.deliverAll(x);
            x.propose(1, command % 4, command >= 4, 5);
            CHECK.entry("its seq is 0, so 1 is due", x, 1, 6, 1, command, 1, 1 << 17, 0);
        }
    }

    private static void owners(int n) {
        CHECK.sentence("INSTANCES have the numbers 0 .. 6 n - 1; 6 r to 6 r + 5 are OWNED by replica r");
        LeaderlessMap x = new LeaderlessMap(n);
        for (int r = n - 1; r >= 0; r--) {
            for (int step = 0; step < 6; step++) {
                CHECK.due("propose by " + r, x.propose(r, step % 4, false, 0), 6 * r + step);
            }
            CHECK.due("a seventh by " + r, x.propose(r, 0, false, 0), -1);
        }
        CHECK.due("the first instance", x.state(0, 0), 1);
        CHECK.due("the last instance", x.state(n - 1, 6 * n - 1), 1);
        CHECK.due("one too small", x.state(0, -1), -1);
        CHECK.due("one too large", x.state(0, 6 * n), -1);
        CHECK.due("no prepare below", x.prepare(0, -1), -1);
        CHECK.due("no prepare above", x.prepare(0, 6 * n), -1);
    }

    private static void highestAndLowestBit() {
        CHECK.sentence("A SET of instances is an int with bit i for instance i");
        LeaderlessMap x = new LeaderlessMap(5);
        x.propose(0, 3, true, 1);
        for (int step = 0; step < 6; step++) {
            x.propose(4, step == 5 ? 3 : 2, true, 1);
        }
        CHECK.due("bits 24 to 27 of key 2", x.deps(4, 28), 15 << 24);
        CHECK.pass(x, PREACCEPT, 4, 0, 29);
        CHECK.due("bit 0", x.deps(0, 29), 1);
        x.propose(0, 3, false, 1);
        CHECK.due("bits 0 and 29", x.deps(0, 1), 1 << 29 | 1);
    }

    private static void firstBallots(int n) {
        CHECK.sentence("The ballots of replica r are the numbers b from 1 on with b modulo n = r");
        for (int r = 0; r < n; r++) {
            LeaderlessMap x = new LeaderlessMap(n);
            for (int step = 0; step < 4; step++) {
                int due = (r == 0 ? n : r) + n * step;
                CHECK.due("prepare " + step + " of " + r, x.prepare(r, 6 * r), due);
                CHECK.due("PROMISED at " + r, x.promised(r, 6 * r), due);
            }
            CHECK.due("another instance begins anew", x.prepare(r, (6 * r + 6) % (6 * n)), r == 0 ? n : r);
        }
    }

    private static void leastBallotAbove(int n) {
        CHECK.sentence("its PROMISED for it becomes the least of its ballots above that");
        for (int q = 0; q < n; q++) {
            for (int r = 0; r < n; r++) {
                for (int times = 1; q != r && times <= 3; times++) {
                    LeaderlessMap x = new LeaderlessMap(n);
                    int promised = 0;
                    for (int step = 0; step < times; step++) {
                        Check.loseAll(x);
                        promised = x.prepare(q, 0);
                    }
                    CHECK.pass(x, PREPARE, q, r, 0);
                    CHECK.due("it promised what it was asked", x.promised(r, 0), promised);
                    int due = promised + 1;
                    while (due % n != r) {
                        due++;
                    }
                    CHECK.due("prepare of " + r + " above " + promised, x.prepare(r, 0), due);
                }
            }
        }
    }

    /** Replica 2 has a PUT of key 1 as instance 0 in the given state. */
    private static LeaderlessMap withState(int n, int state) {
        LeaderlessMap x = new LeaderlessMap(n);
        x.propose(0, 1, true, 7);
        if (state == 2) {
            x.prepare(2, 0);
            for (int r = 1; r <= n / 2; r++) {
                int asked = r == 2 ? 3 : r;
                CHECK.pass(x, PREACCEPT, 0, asked, 0);
                CHECK.ask(x, PREPARE, 2, asked, 0);
            }
        } else if (state >= 3) {
            Check.deliverAll(x);
            CHECK.due("execute", state == 4 ? x.execute(2) : 1, 1);
        } else if (n == 5) {
            CHECK.pass(x, PREACCEPT, 0, 2, 0);
        } else {
            x.prepare(2, 0);
            CHECK.ask(x, PREPARE, 2, 0, 0);
        }
        CHECK.due("the state that is wanted", x.state(2, 0), state);
        return x;
    }

    private static void relatedInEachState(int n) {
        CHECK.sentence("RELATED are the instances other than i whose entry there is not UNKNOWN");
        for (int state = 1; state <= 4; state++) {
            LeaderlessMap x = withState(n, state);
            x.propose(2, 1, false, 0);
            CHECK.entry("state " + state, x, 2, 12, 1, 1, 2, 1, 0);
        }
        LeaderlessMap y = new LeaderlessMap(n);
        y.propose(0, 1, true, 7);
        y.prepare(2, 0);
        y.propose(2, 1, false, 0);
        CHECK.entry("UNKNOWN, but promised", y, 2, 12, 1, 1, 1, 0, 0);
    }

    private static void notRelated() {
        CHECK.sentence("RELATED are the instances other than i");
        LeaderlessMap x = new LeaderlessMap(5);
        x.propose(0, 1, true, 7);
        CHECK.pass(x, PREACCEPT, 0, 1, 0);
        x.prepare(4, 0);
        CHECK.ask(x, PREPARE, 4, 0, 0);
        CHECK.ask(x, PREPARE, 4, 1, 0);
        CHECK.entry("preaccepted anew where it was UNKNOWN", x, 4, 0, 1, 5, 1, 0, 4);
        CHECK.pass(x, PREACCEPT, 4, 1, 0);
        CHECK.entry("where it was PREACCEPTED it is not its own dep", x, 1, 0, 1, 5, 1, 0, 4);
        LeaderlessMap y = new LeaderlessMap(3);
        y.propose(0, 1, true, 7);
        y.prepare(0, 0);
        CHECK.ask(y, PREPARE, 0, 2, 0);
        CHECK.entry("nor where it was proposed", y, 0, 0, 1, 5, 1, 0, 3);
    }

    private static void seqOfSeveral() {
        CHECK.sentence("its seq is the greatest of s and of 1 more than the seq of each related one, its deps are d and the related ones");
        for (int known = 0; known <= 6; known++) {
            LeaderlessMap x = new LeaderlessMap(3);
            for (int step = 0; step < 5; step++) {
                x.propose(0, 3, true, step);
            }
            CHECK.entry("what is asked", x, 0, 4, 1, 7, 5, 15, 0);
            for (int step = 0; step < known; step++) {
                x.propose(1, 3, true, step);
            }
            CHECK.pass(x, PREACCEPT, 0, 1, 4);
            int related = (1 << known) - 1 << 6;
            CHECK.entry("with " + known + " related", x, 1, 4, 1, 7, Math.max(5, known + 1), 15 | related, 0);
        }
    }

    private static void newAttempt() {
        CHECK.sentence("A new attempt takes the place of the one before");
        LeaderlessMap x = new LeaderlessMap(5);
        x.prepare(1, 0);
        CHECK.ask(x, PREPARE, 1, 2, 0);
        Check.loseAll(x);
        x.prepare(1, 0);
        CHECK.ask(x, PREPARE, 1, 2, 0);
        CHECK.entry("the reply before is not counted for the new one", x, 1, 0, 0, -1, -1, -1, 6);
        CHECK.ask(x, PREPARE, 1, 3, 0);
        CHECK.entry("two of its own are", x, 1, 0, 2, 8, 0, 0, 6);
    }

    private static LeaderlessMap withUnderWay(int count) {
        LeaderlessMap x = new LeaderlessMap(5);
        for (int i = 0; i < 10; i++) {
            x.prepare(0, 29 - i);
        }
        for (int step = count; step < 40; step++) {
            x.lose(x.waiting() - 1);
        }
        CHECK.due("under way", x.waiting(), count);
        CHECK.due("none lost so far", x.lost(), 0);
        return x;
    }

    private static void exactlyForty() {
        CHECK.sentence("At most 40 are UNDER WAY; one that is sent when 40 are is LOST at once");
        LeaderlessMap x = new LeaderlessMap(3);
        for (int step = 0; step < 20; step++) {
            CHECK.due("lost before 40", x.lost(), 0);
            x.prepare(step % 3, step % 18);
        }
        CHECK.due("the 40th is not lost", x.lost(), 0);
        CHECK.due("40", x.waiting(), 40);
        CHECK.due("message(39)", x.message(39), Check.number(PREPARE, 1, 2, 1));
        CHECK.due("prepare is not refused", x.prepare(2, 9), 2);
        CHECK.due("its two are lost", x.lost(), 2);
        CHECK.due("40 still", x.waiting(), 40);
        CHECK.due("PROMISED as ever", x.promised(2, 9), 2);
        CHECK.due("propose is not refused", x.propose(2, 0, true, 1), 12);
        CHECK.due("its one is lost", x.lost(), 3);
        CHECK.due("the entry as ever", x.state(2, 12), 1);
        CHECK.due("message(39) is the same", x.message(39), Check.number(PREPARE, 1, 2, 1));
        CHECK.due("message(40)", x.message(40), -1);
    }

    private static void fortyAndAPartOfThem() {
        CHECK.sentence("one that is sent when 40 are is LOST at once");
        for (int under = 36; under <= 40; under++) {
            LeaderlessMap x = withUnderWay(under);
            x.prepare(2, 0);
            int sent = Math.min(4, 40 - under);
            CHECK.due("prepare with " + under + ": under way", x.waiting(), under + sent);
            CHECK.due("prepare with " + under + ": lost", x.lost(), 4 - sent);
            int[] receivers = {0, 1, 3, 4};
            for (int step = 0; step < 4; step++) {
                int due = step < sent ? Check.number(PREPARE, 2, receivers[step], 0) : -1;
                CHECK.due("prepare with " + under + ": message " + step, x.message(under + step), due);
            }
        }
        for (int under = 37; under <= 40; under++) {
            LeaderlessMap x = withUnderWay(under);
            x.propose(3, 0, true, 1);
            int sent = Math.min(3, 40 - under);
            CHECK.due("propose with " + under + ": under way", x.waiting(), under + sent);
            CHECK.due("propose with " + under + ": lost", x.lost(), 3 - sent);
            for (int step = 0; step < 3; step++) {
                int due = step < sent ? Check.number(PREACCEPT, 3, (4 + step) % 5, 18) : -1;
                CHECK.due("propose with " + under + ": message " + step, x.message(under + step), due);
            }
        }
    }

    /** The delivered one leaves one place, so that the first of what is sent then goes under way. */
    private static void fortyAndADelivery() {
        CHECK.sentence("one that is sent when 40 are is LOST at once, and deliver takes its message first");
        LeaderlessMap x = new LeaderlessMap(5);
        x.prepare(1, 0);
        CHECK.ask(x, PREPARE, 1, 2, 0);
        CHECK.pass(x, PREPARE, 1, 3, 0);
        Check.loseAllBut(x, Check.number(PROMISE, 3, 1, 0));
        for (int i = 10; i < 20; i++) {
            x.prepare(4, i);
        }
        CHECK.due("one of the last four was lost", x.lost(), 1);
        CHECK.pass(x, PROMISE, 3, 1, 0);
        CHECK.entry("accepting begins as ever", x, 1, 0, 2, 8, 0, 0, 1);
        CHECK.due("three of four ACCEPTs are lost", x.lost(), 4);
        CHECK.due("the first is not", x.message(39), Check.number(ACCEPT, 1, 0, 0));
        CHECK.pass(x, ACCEPT, 1, 0, 0);
        CHECK.due("the reply finds a place", x.message(39), Check.number(ACCEPTOK, 0, 1, 0));
        CHECK.due("none is lost", x.lost(), 4);
        LeaderlessMap y = new LeaderlessMap(3);
        y.propose(0, 0, true, 1);
        CHECK.pass(y, PREACCEPT, 0, 1, 0);
        for (int i = 1; i < 18; i++) {
            y.prepare(2, i);
        }
        for (int i = 1; i < 4; i++) {
            y.prepare(1, i);
        }
        CHECK.due("40 and one lost", y.waiting() * 100 + y.lost(), 4001);
        CHECK.pass(y, PREACCEPTOK, 1, 0, 0);
        CHECK.due("COMMITTED as ever", y.state(0, 0), 3);
        CHECK.due("the COMMIT to 1", y.message(39), Check.number(COMMIT, 0, 1, 0));
        CHECK.due("the COMMIT to 2 is lost", y.lost(), 2);
    }

    private static void fortyAndACrashedReceiver() {
        CHECK.sentence("To ALL OTHERS means one to each other replica (crashed or not)");
        LeaderlessMap x = withUnderWay(38);
        x.crash(1);
        x.prepare(2, 0);
        CHECK.due("one to a crashed one takes a place", x.message(39), Check.number(PREPARE, 2, 1, 0));
        CHECK.due("those after it are lost", x.lost(), 2);
        CHECK.due("deliver to a crashed one", x.deliver(39), PREPARE);
        CHECK.due("its place is free", x.waiting(), 39);
        CHECK.due("that does not count as lost", x.lost(), 2);
    }

    private static void whatIsLostNeverComes() {
        CHECK.sentence("LOST at once");
        LeaderlessMap x = withUnderWay(40);
        x.propose(3, 2, true, 1);
        Check.loseAll(x);
        CHECK.due("nothing comes", x.deliver(0), -1);
        CHECK.due("nobody knows", x.state(4, 18) + x.state(0, 18) + x.state(1, 18), 0);
        CHECK.due("lose does not count", x.lost(), 3);
        CHECK.due("there is room again", x.propose(3, 2, true, 1), 19);
        CHECK.due("all three", x.waiting(), 3);
        CHECK.due("no more lost", x.lost(), 3);
    }

    private static void inTheOrderOfSending() {
        CHECK.sentence("UNDER WAY, in the order in which they were sent");
        LeaderlessMap x = new LeaderlessMap(3);
        x.propose(2, 0, true, 1);
        x.prepare(1, 0);
        x.propose(0, 1, true, 1);
        CHECK.messages("sent", x, Check.m(PREACCEPT, 2, 0, 12), Check.m(PREPARE, 1, 0, 0), Check.m(PREPARE, 1, 2, 0),
            Check.m(PREACCEPT, 0, 1, 0));
        x.deliver(2);
        x.deliver(0);
        CHECK.messages("replies are last", x, Check.m(PREPARE, 1, 0, 0), Check.m(PREACCEPT, 0, 1, 0), Check.m(PROMISE, 2, 1, 0),
            Check.m(PREACCEPTOK, 0, 2, 12));
        x.lose(1);
        x.deliver(2);
        CHECK.messages("the rest moves up", x, Check.m(PREPARE, 1, 0, 0), Check.m(PROMISE, 2, 1, 0), Check.m(COMMIT, 2, 0, 12),
            Check.m(COMMIT, 2, 1, 12));
    }

    private static void proposeGoesTo(int n) {
        CHECK.sentence("goes to the replicas r + 1 to r + n - 2 (modulo n), in this order");
        for (int r = 0; r < n; r++) {
            LeaderlessMap x = new LeaderlessMap(n);
            x.crash((r + 1) % n);
            x.propose(r, 0, true, 1);
            CHECK.due("how many, crashed or not", x.waiting(), n - 2);
            for (int step = 1; step <= n - 2; step++) {
                CHECK.due("of " + r, x.message(step - 1), Check.number(PREACCEPT, r, (r + step) % n, 6 * r));
            }
        }
    }

    private static void allOthers(LeaderlessMap x, int n, int kind, int from, int i) {
        int first = x.waiting() - (n - 1);
        int k = first;
        for (int to = 0; to < n; to++) {
            if (to != from) {
                CHECK.due("kind " + kind + " from " + from + " to " + to, x.message(k), Check.number(kind, from, to, i));
                k++;
            }
        }
    }

    private static void allOthersGetPrepare(int n) {
        CHECK.sentence("To ALL OTHERS means one to each other replica (crashed or not), the least number first: PREPARE");
        for (int r = 0; r < n; r++) {
            LeaderlessMap x = new LeaderlessMap(n);
            x.crash((r + 1) % n);
            x.prepare(r, 7);
            CHECK.due("how many", x.waiting(), n - 1);
            allOthers(x, n, PREPARE, r, 7);
        }
    }

    private static void allOthersGetAcceptAndCommit(int n) {
        CHECK.sentence("To ALL OTHERS means one to each other replica (crashed or not), the least number first: ACCEPT, COMMIT");
        for (int r = 0; r < n; r++) {
            LeaderlessMap x = new LeaderlessMap(n);
            x.crash((r + 1) % n);
            x.prepare(r, 7);
            for (int step = 2; step < 2 + n / 2; step++) {
                CHECK.ask(x, PREPARE, r, (r + step) % n, 7);
            }
            CHECK.due("PREPAREs left and ACCEPTs", x.waiting(), n - 1 - n / 2 + n - 1);
            allOthers(x, n, ACCEPT, r, 7);
            for (int step = 2; step < 2 + n / 2; step++) {
                CHECK.ask(x, ACCEPT, r, (r + step) % n, 7);
            }
            CHECK.due("PREPAREs and ACCEPTs left and COMMITs", x.waiting(), 2 * (n - 1 - n / 2) + n - 1);
            allOthers(x, n, COMMIT, r, 7);
        }
    }

    private static void allOthersGetPreaccept(int n) {
        CHECK.sentence("a PREACCEPT with the ballot and the entry's command, seq and deps goes to all others");
        for (int r = 0; r < n; r++) {
            LeaderlessMap x = new LeaderlessMap(n);
            x.propose(r, 0, true, 5);
            Check.loseAll(x);
            x.crash((r + 1) % n);
            x.prepare(r, 6 * r);
            for (int step = 2; step < 2 + n / 2; step++) {
                CHECK.ask(x, PREPARE, r, (r + step) % n, 6 * r);
            }
            CHECK.entry("preaccepted anew", x, r, 6 * r, 1, 4, 1, 0, r == 0 ? n : r);
            CHECK.due("PREPAREs left and PREACCEPTs", x.waiting(), n - 1 - n / 2 + n - 1);
            allOthers(x, n, PREACCEPT, r, 6 * r);
        }
    }
}
