/** Components, what they wait for, and the order in which they and their instances are executed. */
public final class ExecutingTest {
    private static final Check CHECK = new Check("ExecutingTest");

    public static void main(String[] args) {
        oneComponentBySeqThenNumber();
        waitsForAllOfTheComponent();
        leastReadyComponentEachTime();
        waitsForADepThatIsNotCommitted();
        chainOverSeveralCalls();
        nothing();
        CHECK.end();
    }

    /**
     * A ring of PUTs of key 0 among three replicas: 0 asks for 6, 6 for 12 and 13, 12 for 0, 13 for 0 and 12;
     * their seqs are 2, 3, 2 and 3. Every COMMIT is under way.
     */
    private static LeaderlessMap ring() {
        LeaderlessMap x = new LeaderlessMap(3);
        x.propose(0, 0, true, 10);
        x.propose(1, 0, true, 16);
        x.propose(2, 0, true, 22);
        x.propose(2, 0, true, 23);
        for (int k = 0; k < 8; k++) {
            x.deliver(0);
        }
        CHECK.entry("ring", x, 0, 0, 3, 4, 2, 1 << 6, 0);
        CHECK.entry("ring", x, 1, 6, 3, 4, 3, 3 << 12, 0);
        CHECK.entry("ring", x, 2, 12, 3, 4, 2, 1, 0);
        CHECK.entry("ring", x, 2, 13, 3, 4, 3, 1 | 1 << 12, 0);
        return x;
    }

    private static void oneComponentBySeqThenNumber() {
        LeaderlessMap x = ring();
        Check.deliverAll(x);
        for (int r = 0; r < 3; r++) {
            CHECK.due("all four", x.execute(r), 4);
            CHECK.due("seq 2, least number", x.place(r, 0), 0);
            CHECK.due("seq 2", x.place(r, 12), 1);
            CHECK.due("seq 3, least number", x.place(r, 6), 2);
            CHECK.due("seq 3", x.place(r, 13), 3);
            CHECK.due("result", x.result(r, 0), 0);
            CHECK.due("result", x.result(r, 12), 10);
            CHECK.due("result", x.result(r, 6), 22);
            CHECK.due("result", x.result(r, 13), 16);
            CHECK.due("value", x.value(r, 0), 23);
        }
    }

    private static void waitsForAllOfTheComponent() {
        LeaderlessMap x = ring();
        CHECK.due("0 has its own alone", x.execute(0), 0);
        CHECK.pass(x, 4, 2, 0, 13);
        CHECK.pass(x, 4, 2, 0, 12);
        CHECK.due("6 is not there", x.execute(0), 0);
        CHECK.due("nothing was done", x.state(0, 12), 3);
        CHECK.pass(x, 4, 1, 0, 6);
        CHECK.due("now all", x.execute(0), 4);
        CHECK.pass(x, 4, 0, 1, 0);
        CHECK.pass(x, 4, 2, 1, 12);
        CHECK.due("13 is not there at 1", x.execute(1), 0);
    }

    private static void leastReadyComponentEachTime() {
        LeaderlessMap x = new LeaderlessMap(3);
        x.propose(1, 0, true, 1);
        x.propose(1, 1, true, 2);
        x.propose(0, 0, true, 3);
        x.propose(2, 2, true, 4);
        Check.deliverAll(x);
        CHECK.due("0 asks for 6", x.deps(0, 0), 1 << 6);
        CHECK.due("all", x.execute(0), 4);
        CHECK.due("the least that is ready", x.place(0, 6), 0);
        CHECK.due("0 is ready then, and less than 7", x.place(0, 0), 1);
        CHECK.due("then 7", x.place(0, 7), 2);
        CHECK.due("then 12", x.place(0, 12), 3);
    }

    private static void waitsForADepThatIsNotCommitted() {
        LeaderlessMap x = new LeaderlessMap(3);
        x.propose(0, 0, true, 1);
        x.propose(0, 0, true, 2);
        x.propose(0, 3, true, 5);
        CHECK.pass(x, 0, 0, 1, 1);
        CHECK.pass(x, 1, 1, 0, 1);
        CHECK.pass(x, 0, 0, 1, 2);
        CHECK.pass(x, 1, 1, 0, 2);
        CHECK.due("1 asks for 0, which is open; 2 does not", x.execute(0), 1);
        CHECK.due("2 is done", x.place(0, 2), 0);
        CHECK.due("1 waits", x.state(0, 1), 3);
        CHECK.pass(x, 4, 0, 2, 1);
        CHECK.due("at 2 the dep is UNKNOWN", x.execute(2), 0);
        CHECK.pass(x, 0, 0, 1, 0);
        CHECK.pass(x, 1, 1, 0, 0);
        CHECK.entry("0 is fitted to 1 as well, so they are one component", x, 0, 0, 3, 4, 3, 1 << 1, 0);
        CHECK.due("now both", x.execute(0), 2);
        CHECK.due("1 has the lesser seq", x.place(0, 1), 1);
        CHECK.due("0 is the last", x.place(0, 0), 2);
        CHECK.due("value", x.value(0, 0), 1);
    }

    private static void chainOverSeveralCalls() {
        LeaderlessMap x = new LeaderlessMap(5);
        for (int step = 0; step < 5; step++) {
            int owner = 4 - step;
            x.propose(owner, 2, true, step + 1);
            for (int k = 0; k < 6; k++) {
                x.deliver(0);
            }
            CHECK.due("committed by the fast way", x.state(owner, 6 * owner), 3);
            Check.deliverAll(x);
            CHECK.due("0 executes each as it comes", x.execute(0), 1);
            CHECK.due("its place", x.place(0, 6 * owner), step);
            CHECK.due("the value before", x.result(0, 6 * owner), step);
        }
        CHECK.due("4 executes all in one call", x.execute(4), 5);
        for (int step = 0; step < 5; step++) {
            CHECK.due("in the order of the deps, not of the numbers", x.place(4, 24 - 6 * step), step);
        }
        CHECK.due("value", x.value(4, 2), 5);
    }

    private static void nothing() {
        LeaderlessMap x = new LeaderlessMap(3);
        x.propose(1, 0, true, 77);
        Check.deliverAll(x);
        x.prepare(0, 17);
        Check.deliverAll(x);
        CHECK.due("both", x.execute(2), 2);
        CHECK.due("NOTHING has a place", x.place(2, 17), 1);
        CHECK.due("the result is 0", x.result(2, 17), 0);
        CHECK.due("the map stays", x.value(2, 0), 77);
    }
}
