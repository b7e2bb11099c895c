/** Promises 1 to 18, one method each: ordinary inputs, the edges that the document names, wrong inputs. */
public final class PromisesTest implements Kinds {
    private static final Check CHECK = new Check("PromisesTest");
    private static final int MIN = Integer.MIN_VALUE;
    private static final int MAX = Integer.MAX_VALUE;

    public static void main(String[] args) {
        newObject();
        propose();
        proposeRefused();
        prepare();
        prepareRefused();
        deliver();
        deliverWhenFull();
        lose();
        crash();
        execute();
        waitingAndLost();
        message();
        state();
        commandSeqDeps();
        promised();
        resultAndPlace();
        value();
        deliverAnswersTheKind(false);
        deliverAnswersTheKind(true);
        looksInEachState();
        crashShowsInNoLook();
        greatestMessage();
        CHECK.end();
    }

    private static void newObject() {
        for (int n : new int[] {MIN, -1, 0, 1, 2, 3}) {
            isNew(n, 3);
        }
        for (int n : new int[] {4, 5, 6, 100, MAX}) {
            isNew(n, 5);
        }
    }

    private static void isNew(int n, int replicas) {
        LeaderlessMap x = new LeaderlessMap(n);
        String what = "1: new with " + n;
        CHECK.due(what + ": last replica", x.state(replicas - 1, 0), 0);
        CHECK.due(what + ": replica after it", x.state(replicas, 0), -1);
        CHECK.due(what + ": last instance", x.state(0, 6 * replicas - 1), 0);
        CHECK.due(what + ": instance after it", x.state(0, 6 * replicas), -1);
        CHECK.due(what + ": waiting", x.waiting(), 0);
        CHECK.due(what + ": lost", x.lost(), 0);
        for (int r = 0; r < replicas; r++) {
            CHECK.entry(what, x, r, 6 * r + 5, 0, -1, -1, -1, 0);
            for (int key = 0; key < 4; key++) {
                CHECK.due(what + ": value", x.value(r, key), 0);
            }
        }
        CHECK.due(what + ": execute", x.execute(replicas - 1), 0);
        for (int r = 0; r < replicas / 2; r++) {
            CHECK.due(what + ": crash " + r, x.crash(r), true);
        }
        CHECK.due(what + ": one crash too many", x.crash(replicas - 1), false);
    }

    private static void propose() {
        LeaderlessMap x = new LeaderlessMap(5);
        CHECK.due("2: propose", x.propose(3, 2, true, 9), 18);
        CHECK.entry("2: PUT", x, 3, 18, 1, 6, 1, 0, 0);
        CHECK.messages("2: to r + 1 .. r + n - 2", x, Check.m(0, 3, 4, 18), Check.m(0, 3, 0, 18), Check.m(0, 3, 1, 18));
        CHECK.due("2: next one", x.propose(3, 2, false, 9), 19);
        CHECK.entry("2: GET after PUT", x, 3, 19, 1, 2, 2, 1 << 18, 0);
        CHECK.due("2: GETs", x.propose(3, 2, false, 9), 20);
        CHECK.entry("2: GET does not interfere with GET", x, 3, 20, 1, 2, 2, 1 << 18, 0);
        CHECK.due("2: other key", x.propose(3, 1, true, 9), 21);
        CHECK.entry("2: another key does not interfere", x, 3, 21, 1, 5, 1, 0, 0);
        CHECK.due("2: PUT", x.propose(3, 2, true, 9), 22);
        CHECK.entry("2: PUT after all", x, 3, 22, 1, 6, 3, 7 << 18, 0);
        CHECK.due("2: the other replica knows nothing", x.state(4, 18), 0);

        LeaderlessMap y = new LeaderlessMap(3);
        CHECK.due("2: n is 3", y.propose(2, 0, true, MIN), 12);
        CHECK.messages("2: n is 3", y, Check.m(0, 2, 0, 12));
        y.prepare(2, 13);
        CHECK.due("2: a promised one is passed over", y.propose(2, 0, true, 1), 14);
        Check.deliverAll(y);
        CHECK.due("2: the passed one is NOTHING", y.command(2, 13), 8);
        y.prepare(1, 15);
        Check.deliverAll(y);
        y.prepare(0, 16);
        CHECK.due("2: 15 is settled, the PREPARE for 16 not there yet", y.propose(2, 3, false, 1), 16);
        CHECK.entry("2: NOTHING interferes with all", y, 2, 16, 1, 3, 1, 1 << 13 | 1 << 15, 0);
    }

    private static void proposeRefused() {
        LeaderlessMap x = new LeaderlessMap(3);
        for (int r : new int[] {MIN, -1, 3, 4, 5, MAX}) {
            CHECK.due("2: no replica " + r, x.propose(r, 0, true, 1), -1);
        }
        for (int key : new int[] {MIN, -1, 4, 8, MAX}) {
            CHECK.due("2: no key " + key, x.propose(0, key, true, 1), -1);
        }
        CHECK.due("2: refused sends nothing", x.waiting(), 0);
        CHECK.due("2: refused takes no instance", x.propose(1, 3, false, 0), 6);
        for (int i = 7; i < 12; i++) {
            CHECK.due("2: all six", x.propose(1, 3, false, 0), i);
        }
        CHECK.due("2: none is left", x.propose(1, 3, false, 0), -1);
        CHECK.due("2: none is left, nothing is sent", x.waiting(), 6);
        CHECK.due("2: another replica has its own", x.propose(0, 3, false, 0), 0);
        x.crash(2);
        CHECK.due("2: crashed", x.propose(2, 3, false, 0), -1);
        CHECK.due("2: crashed, nothing changes", x.state(2, 12), 0);
    }

    private static void prepare() {
        LeaderlessMap x = new LeaderlessMap(5);
        CHECK.due("3: the least ballot of 0 is n", x.prepare(0, 29), 5);
        CHECK.due("3: then 2 n", x.prepare(0, 29), 10);
        CHECK.due("3: the least ballot of 3", x.prepare(3, 7), 3);
        CHECK.due("3: above its own", x.prepare(3, 7), 8);
        CHECK.entry("3: only PROMISED changes", x, 3, 7, 0, -1, -1, -1, 8);
        Check.loseAll(x);
        x.crash(1);
        CHECK.due("3: again", x.prepare(2, 0), 2);
        CHECK.messages("3: to all others, crashed or not", x, Check.m(5, 2, 0, 0), Check.m(5, 2, 1, 0), Check.m(5, 2, 3, 0), Check.m(5, 2, 4, 0));
        CHECK.pass(x, 5, 2, 4, 0);
        CHECK.due("3: above what it promised", x.prepare(4, 0), 4);
        CHECK.pass(x, 5, 2, 0, 0);
        CHECK.due("3: 0 above 2", x.prepare(0, 0), 5);
        CHECK.due("3: 3 heard nothing", x.prepare(3, 0), 3);

        LeaderlessMap y = new LeaderlessMap(3);
        CHECK.due("3: n is 3", y.prepare(2, 17), 2);
        CHECK.due("3: n is 3", y.prepare(2, 17), 5);
        CHECK.due("3: n is 3", y.prepare(1, 17), 1);
        CHECK.due("3: n is 3", y.prepare(1, 17), 4);
        CHECK.due("3: n is 3", y.prepare(0, 17), 3);
        y.propose(0, 1, true, 4);
        CHECK.due("3: its own open command", y.prepare(0, 0), 3);
        CHECK.entry("3: the entry stays", y, 0, 0, 1, 5, 1, 0, 3);
    }

    private static void prepareRefused() {
        LeaderlessMap x = new LeaderlessMap(3);
        for (int bad : new int[] {MIN, -1, 18, 30, MAX}) {
            CHECK.due("3: no replica " + bad, x.prepare(bad, 0), -1);
            CHECK.due("3: no instance " + bad, x.prepare(0, bad), -1);
        }
        CHECK.due("3: no replica n", x.prepare(3, 0), -1);
        CHECK.due("3: refused sends nothing", x.waiting(), 0);
        x.propose(0, 1, true, 4);
        Check.deliverAll(x);
        x.execute(1);
        CHECK.due("3: it is COMMITTED", x.state(0, 0), 3);
        CHECK.due("3: COMMITTED is settled", x.prepare(0, 0), -1);
        CHECK.due("3: EXECUTED is settled", x.prepare(1, 0), -1);
        CHECK.due("3: PROMISED stays", x.promised(0, 0), 0);
        x.crash(2);
        CHECK.due("3: crashed", x.prepare(2, 1), -1);
        CHECK.due("3: crashed, PROMISED stays", x.promised(2, 1), 0);
        CHECK.due("3: nothing was sent", x.waiting(), 0);
    }

    private static void deliver() {
        LeaderlessMap x = new LeaderlessMap(5);
        CHECK.due("4: none", x.deliver(0), -1);
        x.propose(0, 0, true, 1);
        for (int k : new int[] {MIN, -1, 3, 39, 40, 41, MAX}) {
            CHECK.due("4: no message " + k, x.deliver(k), -1);
        }
        CHECK.due("4: refused changes nothing", x.waiting(), 3);
        CHECK.due("4: one in the middle", x.deliver(1), 0);
        CHECK.messages("4: the others keep their order, the reply is last", x, Check.m(0, 0, 1, 0), Check.m(0, 0, 3, 0), Check.m(1, 2, 0, 0));
        CHECK.due("4: the receiver did it", x.state(2, 0), 1);
        CHECK.due("4: the others did not", x.state(1, 0) + x.state(3, 0), 0);
        x.crash(3);
        CHECK.due("4: to a crashed one", x.deliver(1), 0);
        CHECK.due("4: it does nothing", x.state(3, 0), 0);
        CHECK.messages("4: it sends nothing", x, Check.m(0, 0, 1, 0), Check.m(1, 2, 0, 0));
        x.crash(0);
        CHECK.due("4: of a crashed one", x.deliver(0), 0);
        CHECK.due("4: is taken", x.state(1, 0), 1);
    }

    private static LeaderlessMap full() {
        LeaderlessMap x = new LeaderlessMap(5);
        for (int i = 0; i < 10; i++) {
            x.prepare(0, i);
        }
        return x;
    }

    private static void deliverWhenFull() {
        LeaderlessMap x = full();
        CHECK.due("4: 40 under way", x.waiting(), 40);
        CHECK.due("4: deliver(39) of 40", x.deliver(39), 5);
        CHECK.due("4: its place is free before the reply is sent", x.lost(), 0);
        CHECK.due("4: 40 again", x.waiting(), 40);
        CHECK.due("4: the reply is the last", x.message(39), 6 + 8 * 4 + 512 * 9);
        CHECK.due("4: message(40)", x.message(40), -1);
    }

    private static void lose() {
        LeaderlessMap x = new LeaderlessMap(5);
        CHECK.due("5: none", x.lose(0), false);
        x.propose(4, 0, true, 1);
        for (int k : new int[] {MIN, -1, 3, 40, MAX}) {
            CHECK.due("5: no message " + k, x.lose(k), false);
        }
        CHECK.due("5: the middle one", x.lose(1), true);
        CHECK.messages("5: the others stay", x, Check.m(0, 4, 0, 24), Check.m(0, 4, 2, 24));
        CHECK.due("5: nobody got it", x.state(1, 24), 0);
        CHECK.due("5: the last one", x.lose(1), true);
        CHECK.due("5: no longer there", x.lose(1), false);
        CHECK.due("5: the first one", x.lose(0), true);
        CHECK.due("5: none is left", x.waiting(), 0);
        CHECK.due("5: these are not counted as lost", x.lost(), 0);
    }

    private static void crash() {
        LeaderlessMap x = new LeaderlessMap(3);
        for (int r : new int[] {MIN, -1, 3, 4, MAX}) {
            CHECK.due("6: no replica " + r, x.crash(r), false);
        }
        x.propose(1, 0, true, 8);
        Check.deliverAll(x);
        x.execute(1);
        CHECK.due("6: crash", x.crash(1), true);
        CHECK.due("6: it has crashed", x.crash(1), false);
        CHECK.due("6: F have", x.crash(0), false);
        CHECK.due("6: the refused one works", x.execute(0), 1);
        CHECK.due("6: a crashed one is still read", x.value(1, 0), 8);
        CHECK.due("6: a crashed one is still read", x.state(1, 6), 4);
        LeaderlessMap y = new LeaderlessMap(5);
        CHECK.due("6: the first of five", y.crash(4), true);
        CHECK.due("6: again", y.crash(4), false);
        CHECK.due("6: the second of five", y.crash(0), true);
        CHECK.due("6: the third of five", y.crash(2), false);
    }

    private static void execute() {
        LeaderlessMap x = new LeaderlessMap(3);
        for (int r : new int[] {MIN, -1, 3, MAX}) {
            CHECK.due("7: no replica " + r, x.execute(r), -1);
        }
        x.propose(0, 0, true, 8);
        CHECK.due("7: PREACCEPTED is not executed", x.execute(0), 0);
        x.propose(0, 0, false, 0);
        x.propose(0, 1, true, 3);
        Check.deliverAll(x);
        CHECK.due("7: all three", x.execute(0), 3);
        CHECK.due("7: no more", x.execute(0), 0);
        CHECK.due("7: EXECUTED here", x.state(0, 1), 4);
        CHECK.due("7: not there", x.state(2, 1), 3);
        CHECK.due("7: its map is its own", x.value(2, 0), 0);
        x.crash(2);
        CHECK.due("7: crashed", x.execute(2), -1);
        CHECK.due("7: crashed, nothing changes", x.state(2, 1), 3);
    }

    private static void waitingAndLost() {
        LeaderlessMap x = full();
        CHECK.due("10: none lost yet", x.lost(), 0);
        CHECK.due("2: a propose that finds no room is not refused", x.propose(4, 1, true, 1), 24);
        CHECK.due("8: at most 40", x.waiting(), 40);
        CHECK.due("10: all three lost", x.lost(), 3);
        CHECK.due("5: one place", x.lose(0), true);
        CHECK.due("8: 39", x.waiting(), 39);
        x.propose(4, 1, true, 1);
        CHECK.due("8: 40 again", x.waiting(), 40);
        CHECK.due("10: the first was sent, two were lost", x.lost(), 5);
        CHECK.due("9: the first is the one to 0", x.message(39), 8 * 4 + 512 * 25);
        Check.loseAll(x);
        CHECK.due("8: none", x.waiting(), 0);
        CHECK.due("10: lose does not count", x.lost(), 5);
    }

    private static void message() {
        LeaderlessMap x = new LeaderlessMap(5);
        CHECK.due("9: none", x.message(0), -1);
        x.prepare(3, 28);
        for (int k : new int[] {MIN, -1, 4, 39, 40, MAX}) {
            CHECK.due("9: no message " + k, x.message(k), -1);
        }
        CHECK.due("9: first", x.message(0), 5 + 8 * 3 + 512 * 28);
        CHECK.due("9: last", x.message(3), 5 + 8 * 3 + 64 * 4 + 512 * 28);
        CHECK.due("9: looking takes none", x.waiting(), 4);
    }

    private static void state() {
        LeaderlessMap x = new LeaderlessMap(3);
        for (int bad : new int[] {MIN, -1, 18, MAX}) {
            CHECK.due("11: no replica " + bad, x.state(bad, 0), -1);
            CHECK.due("11: no instance " + bad, x.state(0, bad), -1);
        }
        CHECK.due("11: no replica 3", x.state(3, 0), -1);
        CHECK.due("11: UNKNOWN", x.state(1, 0), 0);
        x.propose(0, 0, true, 1);
        CHECK.due("11: PREACCEPTED", x.state(0, 0), 1);
        x.prepare(2, 0);
        CHECK.pass(x, 0, 0, 1, 0);
        CHECK.pass(x, 5, 2, 1, 0);
        CHECK.pass(x, 6, 1, 2, 0);
        CHECK.due("11: ACCEPTED", x.state(2, 0), 2);
        CHECK.pass(x, 2, 2, 0, 0);
        CHECK.pass(x, 3, 0, 2, 0);
        CHECK.due("11: COMMITTED", x.state(2, 0), 3);
        x.execute(2);
        CHECK.due("11: EXECUTED", x.state(2, 0), 4);
    }

    private static void commandSeqDeps() {
        LeaderlessMap x = new LeaderlessMap(3);
        for (int bad : new int[] {MIN, -1, 18, MAX}) {
            CHECK.due("12: no replica " + bad, x.command(bad, 0), -1);
            CHECK.due("12: no instance " + bad, x.command(0, bad), -1);
            CHECK.due("13: no replica " + bad, x.seq(bad, 0), -1);
            CHECK.due("13: no instance " + bad, x.seq(0, bad), -1);
            CHECK.due("14: no replica " + bad, x.deps(bad, 0), -1);
            CHECK.due("14: no instance " + bad, x.deps(0, bad), -1);
        }
        CHECK.due("12: UNKNOWN", x.command(0, 0), -1);
        CHECK.due("13: UNKNOWN", x.seq(0, 0), -1);
        CHECK.due("14: UNKNOWN", x.deps(0, 0), -1);
        for (int key = 0; key < 4; key++) {
            x.propose(0, key, false, 1);
            CHECK.due("12: GET", x.command(0, key), key);
            x.propose(1, key, true, 1);
            CHECK.due("12: PUT", x.command(1, 6 + key), 4 + key);
        }
        x.prepare(2, 17);
        CHECK.due("12: promised, but UNKNOWN", x.command(2, 17), -1);
        Check.deliverAll(x);
        CHECK.entry("12: NOTHING", x, 0, 17, 3, 8, 0, 0, 2);
        CHECK.due("13: the reply's seq", x.seq(0, 2), 2);
        CHECK.due("14: the reply's deps", x.deps(0, 2), 1 << 8);
    }

    private static void promised() {
        LeaderlessMap x = new LeaderlessMap(3);
        for (int bad : new int[] {MIN, -1, 18, MAX}) {
            CHECK.due("15: no replica " + bad, x.promised(bad, 0), -1);
            CHECK.due("15: no instance " + bad, x.promised(0, bad), -1);
        }
        x.prepare(2, 4);
        CHECK.due("15: of the one that prepares", x.promised(2, 4), 2);
        CHECK.due("15: not yet of the other", x.promised(0, 4), 0);
        x.deliver(0);
        CHECK.due("15: now of the other", x.promised(0, 4), 2);
        CHECK.due("15: of no other instance", x.promised(0, 5), 0);
    }

    private static void resultAndPlace() {
        LeaderlessMap x = new LeaderlessMap(3);
        x.propose(0, 3, true, 70);
        Check.deliverAll(x);
        x.propose(1, 3, true, -5);
        Check.deliverAll(x);
        x.propose(2, 3, false, 99);
        Check.deliverAll(x);
        CHECK.due("16: COMMITTED is not EXECUTED", x.result(0, 6), 0);
        CHECK.due("17: COMMITTED is not EXECUTED", x.place(0, 6), -1);
        CHECK.due("7: three", x.execute(0), 3);
        CHECK.due("16: first PUT", x.result(0, 0), 0);
        CHECK.due("16: PUT answers the value before", x.result(0, 6), 70);
        CHECK.due("16: GET answers the value", x.result(0, 12), -5);
        CHECK.due("17: first", x.place(0, 0), 0);
        CHECK.due("17: second", x.place(0, 6), 1);
        CHECK.due("17: third", x.place(0, 12), 2);
        x.propose(0, 3, true, 1);
        Check.deliverAll(x);
        x.execute(0);
        CHECK.due("16: a result stays", x.result(0, 12), -5);
        CHECK.due("17: counting goes on", x.place(0, 1), 3);
        CHECK.due("16: another replica", x.result(1, 6), 0);
        CHECK.due("17: another replica", x.place(1, 6), -1);
        for (int bad : new int[] {MIN, -1, 18, MAX}) {
            CHECK.due("16: no replica " + bad, x.result(bad, 0), 0);
            CHECK.due("16: no instance " + bad, x.result(0, bad), 0);
            CHECK.due("17: no replica " + bad, x.place(bad, 0), -1);
            CHECK.due("17: no instance " + bad, x.place(0, bad), -1);
        }
    }

    private static void value() {
        LeaderlessMap x = new LeaderlessMap(3);
        x.propose(0, 0, true, MIN);
        x.propose(0, 3, true, MAX);
        x.propose(0, 2, false, 5);
        Check.deliverAll(x);
        CHECK.due("18: not executed yet", x.value(0, 0), 0);
        x.execute(0);
        CHECK.due("18: any int", x.value(0, 0), MIN);
        CHECK.due("18: any int", x.value(0, 3), MAX);
        CHECK.due("18: no PUT", x.value(0, 1), 0);
        CHECK.due("18: GET changes nothing", x.value(0, 2), 0);
        CHECK.due("18: not executed there", x.value(1, 0), 0);
        for (int bad : new int[] {MIN, -1, 4, MAX}) {
            CHECK.due("18: no replica " + bad, x.value(bad, 0), 0);
            CHECK.due("18: no key " + bad, x.value(0, bad), 0);
        }
        x.crash(0);
        CHECK.due("18: a crashed one's map", x.value(0, 3), MAX);
    }

    private static void deliverAnswersTheKind(boolean crashed) {
        CHECK.sentence("Promise 4: its kind, 0 .. 6, whatever the receiver does with it");
        int[] kinds = {PREACCEPT, PREACCEPTOK, ACCEPT, ACCEPTOK, COMMIT, PREPARE, PROMISE};
        for (int kind : kinds) {
            LeaderlessMap x = new LeaderlessMap(3);
            x.propose(1, 0, true, 1);
            x.propose(0, 0, true, 1);
            CHECK.ask(x, PREACCEPT, 1, 2, 6);
            CHECK.pass(x, PREACCEPT, 0, 1, 0);
            x.propose(0, 0, true, 1);
            x.prepare(1, 17);
            CHECK.ask(x, PREPARE, 1, 2, 17);
            CHECK.pass(x, ACCEPT, 1, 2, 17);
            x.prepare(1, 16);
            CHECK.pass(x, PREPARE, 1, 2, 16);
            int k = firstOfKind(x, kind);
            CHECK.due("crash", !crashed || x.crash(x.message(k) / 64 % 8), true);
            int before = x.waiting();
            CHECK.due("deliver of kind " + kind, x.deliver(k), kind);
            CHECK.due("to a crashed one it is gone, and no more", !crashed || x.waiting() == before - 1, true);
        }
    }

    private static int firstOfKind(LeaderlessMap x, int kind) {
        for (int k = 0; k < x.waiting(); k++) {
            if (x.message(k) % 8 == kind) {
                return k;
            }
        }
        CHECK.due("the index of a message of kind " + kind, -1, 0);
        return -1;
    }

    /** Replica 2 comes to have instance 0 in each state; the looks at it after each step. */
    private static void looksInEachState() {
        LeaderlessMap x = new LeaderlessMap(3);
        x.propose(0, 3, true, MAX);
        x.propose(1, 3, true, MIN);
        CHECK.ask(x, PREACCEPT, 1, 2, 6);
        CHECK.pass(x, COMMIT, 1, 2, 6);
        CHECK.due("6 is executed at 2", x.execute(2), 1);
        looks(x, 0, -1, -1, -1, 0, 0, -1);
        x.prepare(2, 0);
        looks(x, 0, -1, -1, -1, 2, 0, -1);
        CHECK.ask(x, PREPARE, 2, 0, 0);
        looks(x, 1, 7, 2, 1 << 6, 2, 0, -1);
        CHECK.ask(x, PREACCEPT, 2, 0, 0);
        looks(x, 2, 7, 2, 1 << 6, 2, 0, -1);
        CHECK.ask(x, ACCEPT, 2, 0, 0);
        looks(x, 3, 7, 2, 1 << 6, 2, 0, -1);
        CHECK.due("0 is executed at 2", x.execute(2), 1);
        looks(x, 4, 7, 2, 1 << 6, 2, MIN, 1);
        CHECK.due("6 is the one before", x.place(2, 6), 0);
    }

    private static void looks(LeaderlessMap x, int... row) {
        CHECK.sentence("Promises 11 to 17, the state is " + row[0] + ": -1 if the entry is UNKNOWN, 0 or -1 if it is not EXECUTED");
        CHECK.entry("looks", x, 2, 0, row);
        CHECK.due("result", x.result(2, 0), row[5]);
        CHECK.due("place", x.place(2, 0), row[6]);
    }

    private static void crashShowsInNoLook() {
        CHECK.sentence("Promises 8 to 18: a crashed replica is a replica still, and its entries and map are shown");
        Picture.Run run = x -> {
            x.propose(1, 2, true, MIN);
            Check.deliverAll(x);
            x.execute(1);
            x.propose(1, 2, true, 4);
            x.prepare(1, 17);
            x.prepare(0, 7);
        };
        CHECK.same("after crash(1)", Picture.of(3, run), Picture.of(3, Picture.then(run, x -> x.crash(1))));
        CHECK.same("after crash(1)", Picture.of(5, run), Picture.of(5, Picture.then(run, x -> x.crash(1))));
    }

    private static void greatestMessage() {
        CHECK.sentence("Promise 9: its kind + 8 * sender + 64 * receiver + 512 * instance");
        LeaderlessMap x = new LeaderlessMap(5);
        x.prepare(4, 29);
        CHECK.pass(x, PREPARE, 4, 3, 29);
        CHECK.due("PROMISE of 3 to 4 about 29", x.message(3), 6 + 8 * 3 + 64 * 4 + 512 * 29);
        LeaderlessMap y = new LeaderlessMap(3);
        y.propose(2, 0, true, 1);
        CHECK.due("PREACCEPT of 2 to 0 about 12", y.message(0), 8 * 2 + 512 * 12);
        LeaderlessMap z = new LeaderlessMap(5);
        z.propose(0, 0, true, 1);
        CHECK.due("PREACCEPT of 0 to 1 about 0", z.message(0), 64);
    }
}
