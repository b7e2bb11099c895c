/** Components, what they wait for, and the order in which they and their instances are executed. */
public final class ExecutingTest implements Kinds {
    private static final Check CHECK = new Check("ExecutingTest");

    public static void main(String[] args) {
        nothingToExecute(3);
        nothingToExecute(5);
        oneInstance(3);
        oneInstance(5);
        depInEachState();
        depExecutedElsewhere();
        risingSeqNotNumber();
        componentOfTheLeastInstance();
        oneOpenDepHoldsTheComponent();
        componentAfterComponent();
        allInstances(3);
        allInstances(5);
        allInOneComponent();
        oneComponentBySeqThenNumber();
        waitsForAllOfTheComponent();
        leastReadyComponentEachTime();
        waitsForADepThatIsNotCommitted();
        chainOverSeveralCalls();
        nothing();
        CHECK.end();
    }

    private static void nothingToExecute(int n) {
        CHECK.sentence("EXECUTING: while there is a component: there is none");
        LeaderlessMap x = new LeaderlessMap(n);
        CHECK.due("a new object", x.execute(n - 1), 0);
        x.propose(0, 0, true, 5);
        CHECK.due("PREACCEPTED", x.execute(0), 0);
        x.prepare(1, 6);
        for (int r = 2; r < 2 + n / 2; r++) {
            CHECK.ask(x, PREPARE, 1, r, 6);
        }
        CHECK.due("ACCEPTED", x.state(1, 6) * 10 + x.execute(1), 20);
        Check.deliverAll(x);
        CHECK.due("COMMITTED", x.execute(0), 2);
        CHECK.due("EXECUTED", x.execute(0), 0);
        CHECK.due("the place stays", x.place(0, 6), 0);
        CHECK.due("the place stays; 0 asks for 6, which 1 knew", x.place(0, 0), 1);
    }

    private static void oneInstance(int n) {
        CHECK.sentence("each one is in a component with itself");
        LeaderlessMap x = new LeaderlessMap(n);
        x.propose(n - 1, 3, true, Integer.MIN_VALUE);
        Check.deliverAll(x);
        for (int r = 0; r < n; r++) {
            CHECK.due("COMMITTED", x.state(r, 6 * (n - 1)), 3);
            CHECK.due("one", x.execute(r), 1);
            CHECK.due("EXECUTED", x.state(r, 6 * (n - 1)), 4);
            CHECK.due("place", x.place(r, 6 * (n - 1)), 0);
            CHECK.due("value", x.value(r, 3), Integer.MIN_VALUE);
        }
    }

    /** Replica 2 has instance 1, a PUT of key 0 with instance 0 as its dep, COMMITTED, and 0 in the given state. */
    private static LeaderlessMap withDep(int state) {
        LeaderlessMap x = new LeaderlessMap(3);
        x.propose(0, 0, true, 5);
        if (state == 1 || state == 2) {
            x.prepare(2, 0);
            CHECK.ask(x, PREPARE, 2, 0, 0);
        }
        if (state == 2) {
            CHECK.ask(x, PREACCEPT, 2, 0, 0);
        }
        if (state >= 3) {
            Check.deliverAll(x);
        }
        CHECK.due("executed", state == 4 ? x.execute(2) : 1, 1);
        Check.loseAll(x);
        x.propose(0, 0, true, 6);
        CHECK.ask(x, PREACCEPT, 0, 1, 1);
        CHECK.pass(x, COMMIT, 0, 2, 1);
        CHECK.entry("the one that asks", x, 2, 1, 3, 4, 2, 1, 0);
        CHECK.due("the dep", x.state(2, 0), state);
        return x;
    }

    private static void depInEachState() {
        CHECK.sentence("a component each dep of whose instances is in it or is EXECUTED there");
        int[] due = {0, 0, 0, 2, 1};
        for (int state = 0; state <= 4; state++) {
            LeaderlessMap x = withDep(state);
            CHECK.due("the dep has state " + state, x.execute(2), due[state]);
            CHECK.due("the dep has state " + state, x.state(2, 1), state >= 3 ? 4 : 3);
            CHECK.due("the dep had state " + state, x.state(2, 0), state >= 3 ? 4 : state);
            CHECK.due("place", x.place(2, 1), state >= 3 ? 1 : -1);
            CHECK.due("value", x.value(2, 0), state >= 3 ? 6 : 0);
        }
    }

    private static void depExecutedElsewhere() {
        CHECK.sentence("or is EXECUTED there");
        LeaderlessMap x = withDep(0);
        x.prepare(1, 0);
        CHECK.ask(x, PREPARE, 1, 0, 0);
        CHECK.ask(x, PREACCEPT, 1, 0, 0);
        CHECK.ask(x, ACCEPT, 1, 0, 0);
        CHECK.pass(x, COMMIT, 1, 0, 0);
        CHECK.due("0 executes both", x.execute(0), 2);
        CHECK.due("2 waits for its own", x.execute(2), 0);
        CHECK.pass(x, COMMIT, 1, 2, 0);
        CHECK.due("now it has it", x.execute(2), 2);
    }

    /** Replica 2 finishes an instance, fitted to what it knows and to what the one asked knows: COMMITTED at 2 then. */
    private static void settle(LeaderlessMap x, int i, int asked) {
        x.prepare(2, i);
        CHECK.ask(x, PREPARE, 2, i / 6, i);
        CHECK.ask(x, PREACCEPT, 2, asked, i);
        CHECK.ask(x, ACCEPT, 2, asked, i);
        CHECK.due("COMMITTED", x.state(2, i), 3);
        Check.loseAll(x);
    }

    /** PUTs at 0 and 1 that nobody else has heard of: 0 and 7 of key 0, 1 and 6 of key 1. */
    private static LeaderlessMap fourOpen() {
        LeaderlessMap x = new LeaderlessMap(3);
        x.propose(0, 0, true, 100);
        x.propose(0, 1, true, 101);
        x.propose(1, 1, true, 106);
        x.propose(1, 0, true, 107);
        Check.loseAll(x);
        return x;
    }

    private static void risingSeqNotNumber() {
        CHECK.sentence("its instances, by rising seq");
        LeaderlessMap x = fourOpen();
        settle(x, 7, 0);
        settle(x, 0, 1);
        CHECK.entry("each asks for the other", x, 2, 0, 3, 4, 3, 1 << 7, 2);
        CHECK.entry("each asks for the other", x, 2, 7, 3, 4, 2, 1, 2);
        CHECK.due("both", x.execute(2), 2);
        CHECK.due("the greater number has the lesser seq", x.place(2, 7), 0);
        CHECK.due("the lesser number has the greater seq", x.place(2, 0), 1);
        CHECK.due("results", x.result(2, 7) * 1000 + x.result(2, 0), 107);
        CHECK.due("value", x.value(2, 0), 100);
    }

    private static void componentOfTheLeastInstance() {
        CHECK.sentence("of such components the one with the least instance is executed");
        LeaderlessMap x = fourOpen();
        settle(x, 1, 1);
        settle(x, 6, 0);
        settle(x, 7, 0);
        settle(x, 0, 1);
        CHECK.entry("of 1 and 6", x, 2, 1, 3, 5, 2, 1 << 6, 2);
        CHECK.entry("of 1 and 6", x, 2, 6, 3, 5, 3, 1 << 1, 2);
        CHECK.due("all", x.execute(2), 4);
        int[] order = {7, 0, 1, 6};
        for (int place = 0; place < 4; place++) {
            CHECK.due("place of " + order[place], x.place(2, order[place]), place);
        }
    }

    private static void oneOpenDepHoldsTheComponent() {
        CHECK.sentence("a component each dep of whose instances is in it: one of them has one that is not");
        LeaderlessMap x = fourOpen();
        x.propose(1, 0, true, 108);
        Check.loseAll(x);
        settle(x, 7, 0);
        settle(x, 0, 1);
        CHECK.entry("0 asks for 8 too", x, 2, 0, 3, 4, 3, 3 << 7, 2);
        CHECK.due("8 is UNKNOWN", x.execute(2), 0);
        settle(x, 1, 1);
        settle(x, 6, 0);
        CHECK.due("the component of 1 and 6 does not wait", x.execute(2), 2);
        CHECK.due("7 does, though its own dep is in the component", x.state(2, 7), 3);
        settle(x, 8, 0);
        CHECK.entry("8 asks for both", x, 2, 8, 3, 4, 4, 1 | 1 << 7, 2);
        CHECK.due("all three", x.execute(2), 3);
        CHECK.due("7 first", x.place(2, 7), 2);
        CHECK.due("then 0", x.place(2, 0), 3);
        CHECK.due("then 8", x.place(2, 8), 4);
    }

    private static void componentAfterComponent() {
        CHECK.sentence("While there is a component: what the one before made ready is executed in the same call");
        LeaderlessMap x = new LeaderlessMap(3);
        x.propose(1, 0, true, 106);
        x.propose(1, 0, true, 107);
        Check.loseAll(x);
        settle(x, 7, 1);
        settle(x, 6, 1);
        CHECK.entry("7 asks for 6", x, 2, 7, 3, 4, 2, 1 << 6, 2);
        CHECK.entry("6 asks for 7", x, 2, 6, 3, 4, 3, 1 << 7, 2);
        x.propose(0, 0, true, 100);
        Check.loseAll(x);
        settle(x, 0, 0);
        CHECK.entry("0 asks for both", x, 2, 0, 3, 4, 4, 3 << 6, 2);
        CHECK.due("all", x.execute(2), 3);
        CHECK.due("7", x.place(2, 7), 0);
        CHECK.due("6", x.place(2, 6), 1);
        CHECK.due("0 has to wait for them, though it is the least", x.place(2, 0), 2);
    }

    private static void allInstances(int n) {
        CHECK.sentence("EXECUTING: all 6 n instances in one call");
        LeaderlessMap x = new LeaderlessMap(n);
        for (int step = 0; step < 6; step++) {
            for (int r = n - 1; r >= 0; r--) {
                x.propose(r, 2, true, 6 * r + step + 1);
                Check.deliverAll(x);
            }
        }
        CHECK.due("all of them", x.execute(0), 6 * n);
        CHECK.due("the first", x.place(0, 6 * n - 6), 0);
        CHECK.due("the last", x.place(0, 5), 6 * n - 1);
        CHECK.due("the value before the last", x.result(0, 5), 6 + 6);
        CHECK.due("value", x.value(0, 2), 6);
    }

    /** Each replica's six ask for all six of the next one, so that all can be reached from all. */
    private static void allInOneComponent() {
        CHECK.sentence("two instances are in one COMPONENT if each can be reached from the other: all 6 n of them");
        LeaderlessMap x = new LeaderlessMap(3);
        for (int i = 0; i < 18; i++) {
            x.propose(i / 6, 1, true, 100 + i);
        }
        for (int k = 0; k < 36; k++) {
            x.deliver(0);
        }
        for (int r = 0; r < 3; r++) {
            int next = 63 << 6 * (r + 1) % 18;
            CHECK.due("the next one's six", x.deps(r, 6 * r) & next, next);
        }
        for (int i = 6; i < 17; i++) {
            CHECK.pass(x, COMMIT, i / 6, 0, i);
        }
        CHECK.due("17 is not there", x.execute(0), 0);
        CHECK.pass(x, COMMIT, 2, 0, 17);
        CHECK.due("all in one call", x.execute(0), 18);
        int[] seqs = new int[18];
        for (int i = 0; i < 18; i++) {
            seqs[i] = x.seq(0, i);
        }
        for (int i = 0; i < 18; i++) {
            int before = 0;
            for (int j = 0; j < 18; j++) {
                before += seqs[j] < seqs[i] || seqs[j] == seqs[i] && j < i ? 1 : 0;
            }
            CHECK.due("place of " + i, x.place(0, i), before);
        }
    }

    /**
     * A ring of PUTs of key 0 among three replicas: 0 asks for 6, 6 for 12 and 13, 12 for 0, 13 for 0 and 12;
     * their seqs are 2, 3, 2 and 3. Every COMMIT is under way.
     */
    private static LeaderlessMap ring() {
        LeaderlessMap x = new LeaderlessMap(3);
        x.propose(0, 0, true, 10);
        x.propose(1, 0, true, 16);
        x.propose(2, 0, true, 22);
        x.propose(2, 0, true, 23);
        for (int k = 0; k < 8; k++) {
            x.deliver(0);
        }
        CHECK.entry("ring", x, 0, 0, 3, 4, 2, 1 << 6, 0);
        CHECK.entry("ring", x, 1, 6, 3, 4, 3, 3 << 12, 0);
        CHECK.entry("ring", x, 2, 12, 3, 4, 2, 1, 0);
        CHECK.entry("ring", x, 2, 13, 3, 4, 3, 1 | 1 << 12, 0);
        return x;
    }

    private static void oneComponentBySeqThenNumber() {
        CHECK.sentence("its instances, by rising seq, of equal seq the lesser number first, do their commands and become EXECUTED");
        LeaderlessMap x = ring();
        Check.deliverAll(x);
        for (int r = 0; r < 3; r++) {
            CHECK.due("all four", x.execute(r), 4);
            CHECK.due("seq 2, least number", x.place(r, 0), 0);
            CHECK.due("seq 2", x.place(r, 12), 1);
            CHECK.due("seq 3, least number", x.place(r, 6), 2);
            CHECK.due("seq 3", x.place(r, 13), 3);
            CHECK.due("result", x.result(r, 0), 0);
            CHECK.due("result", x.result(r, 12), 10);
            CHECK.due("result", x.result(r, 6), 22);
            CHECK.due("result", x.result(r, 13), 16);
            CHECK.due("value", x.value(r, 0), 23);
        }
    }

    private static void waitsForAllOfTheComponent() {
        CHECK.sentence("two instances are in one COMPONENT if each can be reached from the other by steps from a COMMITTED instance to a COMMITTED one");
        LeaderlessMap x = ring();
        CHECK.due("0 has its own alone", x.execute(0), 0);
        CHECK.pass(x, 4, 2, 0, 13);
        CHECK.pass(x, 4, 2, 0, 12);
        CHECK.due("6 is not there", x.execute(0), 0);
        CHECK.due("nothing was done", x.state(0, 12), 3);
        CHECK.pass(x, 4, 1, 0, 6);
        CHECK.due("now all", x.execute(0), 4);
        CHECK.pass(x, 4, 0, 1, 0);
        CHECK.pass(x, 4, 2, 1, 12);
        CHECK.due("13 is not there at 1", x.execute(1), 0);
    }

    private static void leastReadyComponentEachTime() {
        CHECK.sentence("While there is a component: of such components the one with the least instance is executed");
        LeaderlessMap x = new LeaderlessMap(3);
        x.propose(1, 0, true, 1);
        x.propose(1, 1, true, 2);
        x.propose(0, 0, true, 3);
        x.propose(2, 2, true, 4);
        Check.deliverAll(x);
        CHECK.due("0 asks for 6", x.deps(0, 0), 1 << 6);
        CHECK.due("all", x.execute(0), 4);
        CHECK.due("the least that is ready", x.place(0, 6), 0);
        CHECK.due("0 is ready then, and less than 7", x.place(0, 0), 1);
        CHECK.due("then 7", x.place(0, 7), 2);
        CHECK.due("then 12", x.place(0, 12), 3);
    }

    private static void waitsForADepThatIsNotCommitted() {
        CHECK.sentence("each dep of whose instances is in it or is EXECUTED there");
        LeaderlessMap x = new LeaderlessMap(3);
        x.propose(0, 0, true, 1);
        x.propose(0, 0, true, 2);
        x.propose(0, 3, true, 5);
        CHECK.pass(x, 0, 0, 1, 1);
        CHECK.pass(x, 1, 1, 0, 1);
        CHECK.pass(x, 0, 0, 1, 2);
        CHECK.pass(x, 1, 1, 0, 2);
        CHECK.due("1 asks for 0, which is open; 2 does not", x.execute(0), 1);
        CHECK.due("2 is done", x.place(0, 2), 0);
        CHECK.due("1 waits", x.state(0, 1), 3);
        CHECK.pass(x, 4, 0, 2, 1);
        CHECK.due("at 2 the dep is UNKNOWN", x.execute(2), 0);
        CHECK.pass(x, 0, 0, 1, 0);
        CHECK.pass(x, 1, 1, 0, 0);
        CHECK.entry("0 is fitted to 1 as well, so they are one component", x, 0, 0, 3, 4, 3, 1 << 1, 0);
        CHECK.due("now both", x.execute(0), 2);
        CHECK.due("1 has the lesser seq", x.place(0, 1), 1);
        CHECK.due("0 is the last", x.place(0, 0), 2);
        CHECK.due("value", x.value(0, 0), 1);
    }

    private static void chainOverSeveralCalls() {
        CHECK.sentence("or is EXECUTED there: in the same call or in one before");
        LeaderlessMap x = new LeaderlessMap(5);
        for (int step = 0; step < 5; step++) {
            int owner = 4 - step;
            x.propose(owner, 2, true, step + 1);
            for (int k = 0; k < 6; k++) {
                x.deliver(0);
            }
            CHECK.due("committed by the fast way", x.state(owner, 6 * owner), 3);
            Check.deliverAll(x);
            CHECK.due("0 executes each as it comes", x.execute(0), 1);
            CHECK.due("its place", x.place(0, 6 * owner), step);
            CHECK.due("the value before", x.result(0, 6 * owner), step);
        }
        CHECK.due("4 executes all in one call", x.execute(4), 5);
        for (int step = 0; step < 5; step++) {
            CHECK.due("in the order of the deps, not of the numbers", x.place(4, 24 - 6 * step), step);
        }
        CHECK.due("value", x.value(4, 2), 5);
    }

    private static void nothing() {
        CHECK.sentence("NOTHING: the result is 0");
        LeaderlessMap x = new LeaderlessMap(3);
        x.propose(1, 0, true, 77);
        Check.deliverAll(x);
        x.prepare(0, 17);
        Check.deliverAll(x);
        CHECK.due("both", x.execute(2), 2);
        CHECK.due("NOTHING has a place", x.place(2, 17), 1);
        CHECK.due("the result is 0", x.result(2, 17), 0);
        CHECK.due("the map stays", x.value(2, 0), 77);
    }
}
