/**
 * Each 'nothing if' and each 'counts if' under 'WHAT A REPLICA DOES WITH A MESSAGE', and the numbers of replies at
 * which something happens: just below, just at and above the edge. Each method begins with the sentence it is about.
 */
public final class MessageEdgesTest implements Kinds {
    private static final Check CHECK = new Check("MessageEdgesTest");

    public static void main(String[] args) {
        settledSendsCommitBack();
        commitBackSaysWhatTheEntryIs();
        preacceptBelowPromised();
        preacceptEqualAndAbove();
        preacceptOfAnAcceptedOne();
        preacceptOfAnOlderAcceptedOne();
        preacceptOkOfADeadAttempt();
        preacceptOkInAnotherPhase();
        preacceptOkOfAnotherBallot();
        fastReplies();
        unlikeReplies();
        fastCommitIsAsReplied();
        slowReplies();
        acceptBelowPromised();
        acceptEqualAndAbove();
        acceptOkOfADeadAttempt();
        acceptOkOfAnotherBallot();
        enoughAcceptOks();
        commitOfAnOpenOne();
        commitOfASettledOne();
        prepareNotAbovePromised();
        prepareAbovePromised();
        promiseOfADeadAttempt();
        promiseInAnotherPhase();
        promiseOfAnotherBallot();
        enoughPromises();
        CHECK.end();
    }

    /** Runs the rest at a replica that has the instance COMMITTED, or EXECUTED if that is asked for. */
    private static Picture.Run settled(Picture.Run run, int r, boolean executed) {
        return x -> {
            run.play(x);
            if (executed) {
                CHECK.due("executed at " + r, x.execute(r), 1);
            }
        };
    }

    /** Replica 2 finished 0's command, and 1 heard of it by the COMMIT alone: all that went to 1 before is under way. */
    private static void finishedPastOne(LeaderlessMap x) {
        x.propose(0, 0, true, 9);
        x.prepare(2, 0);
        CHECK.ask(x, PREPARE, 2, 0, 0);
        CHECK.drop(x, PREACCEPT, 0, 1, 0);
        CHECK.ask(x, PREACCEPT, 2, 0, 0);
        CHECK.ask(x, ACCEPT, 2, 0, 0);
        CHECK.pass(x, COMMIT, 2, 1, 0);
        CHECK.entry("settled, and nothing promised", x, 1, 0, 3, 4, 1, 0, 0);
    }

    private static void settledSendsCommitBack() {
        CHECK.sentence("If it is PREACCEPT, ACCEPT or PREPARE and the entry is settled, it sends a COMMIT back, and that is all");
        for (boolean executed : new boolean[] {false, true}) {
            Picture.Run run = settled(MessageEdgesTest::finishedPastOne, 1, executed);
            CHECK.commitBackAlone("PREACCEPT above PROMISED", 3, run, PREACCEPT, 2, 1, 0);
            CHECK.commitBackAlone("ACCEPT above PROMISED", 3, run, ACCEPT, 2, 1, 0);
            CHECK.commitBackAlone("PREPARE above PROMISED", 3, run, PREPARE, 2, 1, 0);
            CHECK.due("a ballot below PROMISED does not come first", commitBackBelow(executed), COMMIT);
        }
    }

    /** The kind of what comes back for a PREACCEPT of ballot 0 where ballot 2 is promised and the entry is settled. */
    private static int commitBackBelow(boolean executed) {
        LeaderlessMap x = new LeaderlessMap(3);
        x.propose(0, 0, true, 9);
        x.prepare(2, 0);
        CHECK.ask(x, PREPARE, 2, 1, 0);
        CHECK.ask(x, ACCEPT, 2, 1, 0);
        CHECK.pass(x, COMMIT, 2, 1, 0);
        CHECK.due("executed", executed ? x.execute(1) : 1, 1);
        CHECK.due("PROMISED", x.promised(1, 0), 2);
        CHECK.pass(x, PREACCEPT, 0, 1, 0);
        return x.message(x.waiting() - 1) % 8;
    }

    private static void commitBackSaysWhatTheEntryIs() {
        CHECK.sentence("it sends a COMMIT with the entry's command, seq and deps back");
        LeaderlessMap x = new LeaderlessMap(3);
        x.propose(2, 3, true, 1);
        x.propose(0, 3, true, Integer.MIN_VALUE);
        x.prepare(2, 0);
        CHECK.ask(x, PREPARE, 2, 0, 0);
        CHECK.ask(x, PREACCEPT, 2, 1, 0);
        CHECK.ask(x, ACCEPT, 2, 1, 0);
        CHECK.pass(x, COMMIT, 2, 1, 0);
        CHECK.pass(x, PREACCEPT, 0, 1, 0);
        CHECK.entry("0 before", x, 0, 0, 1, 7, 1, 0, 2);
        CHECK.pass(x, COMMIT, 1, 0, 0);
        CHECK.entry("0 has it as 1 has it", x, 0, 0, 3, 7, 2, 1 << 12, 2);
        x.prepare(2, 12);
        CHECK.ask(x, PREPARE, 2, 1, 12);
        CHECK.ask(x, PREACCEPT, 2, 1, 12);
        CHECK.ask(x, ACCEPT, 2, 1, 12);
        CHECK.pass(x, COMMIT, 2, 0, 12);
        CHECK.due("both are executed at 0", x.execute(0), 2);
        CHECK.due("the value of the PUT came along", x.value(0, 3), x.place(0, 0) == 1 ? Integer.MIN_VALUE : 1);
        LeaderlessMap y = new LeaderlessMap(3);
        y.propose(0, 3, true, 5);
        y.prepare(2, 0);
        CHECK.ask(y, PREPARE, 2, 1, 0);
        CHECK.ask(y, ACCEPT, 2, 1, 0);
        CHECK.pass(y, COMMIT, 2, 1, 0);
        CHECK.pass(y, PREACCEPT, 0, 1, 0);
        CHECK.pass(y, COMMIT, 1, 0, 0);
        CHECK.entry("the owner learns that it is NOTHING", y, 0, 0, 3, 8, 0, 0, 0);
    }

    /** Replica 0 of 3 preaccepts its own command anew with ballot 3; 2 has promised that, 1 has heard nothing. */
    private static void anewWithThree(LeaderlessMap x) {
        x.propose(0, 0, true, 9);
        CHECK.drop(x, PREACCEPT, 0, 1, 0);
        CHECK.due("ballot", x.prepare(0, 0), 3);
        CHECK.ask(x, PREPARE, 0, 2, 0);
        CHECK.entry("preaccepts anew", x, 0, 0, 1, 4, 1, 0, 3);
    }

    private static void preacceptBelowPromised() {
        CHECK.sentence("PREACCEPT: nothing if its ballot is below PROMISED");
        CHECK.nothing("0 below 1", 3, x -> {
            x.propose(0, 0, true, 9);
            x.prepare(1, 0);
        }, PREACCEPT, 0, 1, 0);
        CHECK.nothing("3 below 4", 3, x -> {
            anewWithThree(x);
            x.prepare(1, 0);
            CHECK.due("PROMISED", x.prepare(1, 0), 4);
        }, PREACCEPT, 0, 1, 0);
    }

    private static void preacceptEqualAndAbove() {
        CHECK.sentence("Else PROMISED and VOTED become its ballot, the entry becomes PREACCEPTED; a PREACCEPTOK goes back");
        LeaderlessMap x = new LeaderlessMap(3);
        anewWithThree(x);
        CHECK.due("2 has promised 3", x.promised(2, 0), 3);
        CHECK.pass(x, PREACCEPT, 0, 2, 0);
        CHECK.entry("equal", x, 2, 0, 1, 4, 1, 0, 3);
        CHECK.due("goes back", x.message(x.waiting() - 1), Check.number(PREACCEPTOK, 2, 0, 0));
        CHECK.due("1 has promised 1", x.prepare(1, 0), 1);
        CHECK.pass(x, PREACCEPT, 0, 1, 0);
        CHECK.entry("above", x, 1, 0, 1, 4, 1, 0, 3);
        CHECK.due("goes back", x.message(x.waiting() - 1), Check.number(PREACCEPTOK, 1, 0, 0));
        LeaderlessMap y = new LeaderlessMap(3);
        y.propose(0, 0, true, 9);
        CHECK.pass(y, PREACCEPT, 0, 1, 0);
        CHECK.entry("0 and 0", y, 1, 0, 1, 4, 1, 0, 0);
        CHECK.messages("goes back", y, Check.m(PREACCEPTOK, 1, 0, 0));
    }

    /** Replicas 1 and 2 of 5 gave unlike replies about instance 0, whose ACCEPTs with ballot 0 are under way. */
    private static void acceptingWithBallotZero(LeaderlessMap x) {
        x.propose(1, 0, true, 1);
        Check.loseAll(x);
        x.propose(0, 0, true, 9);
        CHECK.ask(x, PREACCEPT, 0, 1, 0);
        CHECK.ask(x, PREACCEPT, 0, 2, 0);
        CHECK.entry("accepting", x, 0, 0, 2, 4, 2, 1 << 6, 0);
    }

    private static void preacceptOfAnAcceptedOne() {
        CHECK.sentence("PREACCEPT: nothing if the entry is ACCEPTED with its ballot as VOTED");
        CHECK.nothing("ballot 0", 5, x -> {
            acceptingWithBallotZero(x);
            CHECK.pass(x, ACCEPT, 0, 3, 0);
        }, PREACCEPT, 0, 3, 0);
        CHECK.nothing("ballot 3", 3, x -> {
            x.propose(2, 0, true, 1);
            Check.loseAll(x);
            anewWithThree(x);
            CHECK.ask(x, PREACCEPT, 0, 2, 0);
            CHECK.pass(x, ACCEPT, 0, 1, 0);
            CHECK.entry("ACCEPTED", x, 1, 0, 2, 4, 2, 1 << 12, 3);
        }, PREACCEPT, 0, 1, 0);
    }

    private static void preacceptOfAnOlderAcceptedOne() {
        CHECK.sentence("nothing if the entry is ACCEPTED with its ballot as VOTED: another VOTED does not matter");
        for (boolean promised : new boolean[] {false, true}) {
            LeaderlessMap x = new LeaderlessMap(5);
            acceptingWithBallotZero(x);
            CHECK.pass(x, ACCEPT, 0, 3, 0);
            Check.loseAll(x);
            CHECK.due("4 prepares", x.prepare(4, 0), 4);
            if (promised) {
                CHECK.pass(x, PREPARE, 4, 3, 0);
            }
            CHECK.ask(x, PREPARE, 4, 1, 0);
            CHECK.ask(x, PREPARE, 4, 2, 0);
            CHECK.entry("unlike, so 4 preaccepts anew", x, 4, 0, 1, 4, 1, 0, 4);
            CHECK.entry("3 before", x, 3, 0, 2, 4, 2, 1 << 6, promised ? 4 : 0);
            CHECK.pass(x, PREACCEPT, 4, 3, 0);
            CHECK.entry("3 after", x, 3, 0, 1, 4, 1, 0, 4);
        }
    }

    private static void preacceptOkOfADeadAttempt() {
        CHECK.sentence("PREACCEPTOK: counts if the attempt is alive");
        CHECK.nothing("PROMISED was raised by a PREPARE", 3, x -> {
            x.propose(0, 0, true, 9);
            CHECK.pass(x, PREACCEPT, 0, 1, 0);
            x.prepare(2, 0);
            CHECK.pass(x, PREPARE, 2, 0, 0);
        }, PREACCEPTOK, 1, 0, 0);
        CHECK.nothing("PROMISED was raised by a PREACCEPT", 5, x -> {
            x.propose(3, 0, true, 1);
            Check.loseAll(x);
            x.propose(0, 0, true, 9);
            CHECK.ask(x, PREACCEPT, 0, 1, 0);
            CHECK.pass(x, PREACCEPT, 0, 3, 0);
            x.prepare(4, 0);
            CHECK.ask(x, PREPARE, 4, 1, 0);
            CHECK.ask(x, PREPARE, 4, 2, 0);
            CHECK.pass(x, PREACCEPT, 4, 0, 0);
            CHECK.entry("PREACCEPTED again", x, 0, 0, 1, 4, 1, 0, 4);
        }, PREACCEPTOK, 3, 0, 0);
        CHECK.nothing("PROMISED was raised by an ACCEPT", 3, x -> {
            x.propose(0, 0, true, 9);
            CHECK.pass(x, PREACCEPT, 0, 1, 0);
            x.prepare(2, 0);
            CHECK.ask(x, PREPARE, 2, 1, 0);
            CHECK.pass(x, ACCEPT, 2, 0, 0);
        }, PREACCEPTOK, 1, 0, 0);
        for (boolean executed : new boolean[] {false, true}) {
            CHECK.nothing("the entry is settled, PROMISED is 0 still", 3, settled(x -> {
                x.propose(0, 0, true, 9);
                CHECK.pass(x, PREACCEPT, 0, 1, 0);
                x.prepare(2, 0);
                CHECK.ask(x, PREPARE, 2, 1, 0);
                CHECK.ask(x, ACCEPT, 2, 1, 0);
                CHECK.pass(x, COMMIT, 2, 0, 0);
                CHECK.due("PROMISED", x.promised(0, 0), 0);
            }, 0, executed), PREACCEPTOK, 1, 0, 0);
        }
    }

    private static void preacceptOkInAnotherPhase() {
        CHECK.sentence("PREACCEPTOK: counts if the attempt is preaccepting");
        CHECK.nothing("it is accepting, with its ballot", 5, x -> {
            acceptingWithBallotZero(x);
            CHECK.pass(x, PREACCEPT, 0, 3, 0);
        }, PREACCEPTOK, 3, 0, 0);
        CHECK.nothing("it is accepting, one ACCEPTOK was counted", 5, x -> {
            acceptingWithBallotZero(x);
            CHECK.pass(x, PREACCEPT, 0, 3, 0);
            CHECK.ask(x, ACCEPT, 0, 1, 0);
        }, PREACCEPTOK, 3, 0, 0);
        CHECK.nothing("it is preparing", 3, x -> {
            x.propose(0, 0, true, 9);
            CHECK.pass(x, PREACCEPT, 0, 1, 0);
            x.prepare(0, 0);
        }, PREACCEPTOK, 1, 0, 0);
    }

    private static void preacceptOkOfAnotherBallot() {
        CHECK.sentence("PREACCEPTOK: counts if the attempt is preaccepting, with its ballot");
        CHECK.nothing("0 of 3", 3, x -> {
            x.propose(0, 0, true, 9);
            CHECK.pass(x, PREACCEPT, 0, 1, 0);
            x.prepare(0, 0);
            CHECK.ask(x, PREPARE, 0, 2, 0);
            CHECK.entry("it preaccepts anew", x, 0, 0, 1, 4, 1, 0, 3);
        }, PREACCEPTOK, 1, 0, 0);
    }

    private static void fastReplies() {
        CHECK.sentence("the attempt is FAST, n - 2 replies were counted and all had the same seq and deps: COMMITTED HERE with these");
        LeaderlessMap x = new LeaderlessMap(3);
        x.propose(2, 0, true, 9);
        CHECK.ask(x, PREACCEPT, 2, 0, 12);
        CHECK.entry("1 of 3", x, 2, 12, 3, 4, 1, 0, 0);
        LeaderlessMap y = new LeaderlessMap(5);
        y.propose(2, 0, true, 9);
        CHECK.ask(y, PREACCEPT, 2, 0, 12);
        CHECK.due("1 of 5", y.state(2, 12) * 100 + y.waiting(), 102);
        CHECK.ask(y, PREACCEPT, 2, 4, 12);
        CHECK.due("F of 5, all alike", y.state(2, 12) * 100 + y.waiting(), 101);
        CHECK.ask(y, PREACCEPT, 2, 3, 12);
        CHECK.entry("n - 2 of 5", y, 2, 12, 3, 4, 1, 0, 0);
        CHECK.due("COMMITs", y.waiting(), 4);
    }

    private static void unlikeReplies() {
        CHECK.sentence("Else, if at least F were counted, and not all of them had the same seq and deps: ACCEPTING begins");
        for (int unlike = 1; unlike <= 3; unlike++) {
            LeaderlessMap x = new LeaderlessMap(5);
            x.propose(unlike, 0, true, 1);
            Check.loseAll(x);
            x.propose(0, 0, true, 9);
            CHECK.ask(x, PREACCEPT, 0, 1, 0);
            CHECK.due("one reply is like itself", x.state(0, 0), 1);
            CHECK.ask(x, PREACCEPT, 0, 2, 0);
            CHECK.due("F replies", x.state(0, 0), unlike == 3 ? 1 : 2);
            if (unlike == 3) {
                CHECK.ask(x, PREACCEPT, 0, 3, 0);
            }
            CHECK.entry("the greatest seq and all the deps", x, 0, 0, 2, 4, 2, 1 << 6 * unlike, 0);
        }
    }

    private static void fastCommitIsAsReplied() {
        CHECK.sentence("COMMITTED HERE with these: what the replies said, not what was asked");
        LeaderlessMap x = new LeaderlessMap(5);
        x.propose(4, 0, true, 1);
        x.propose(4, 0, true, 2);
        for (int i = 24; i <= 25; i++) {
            CHECK.pass(x, PREACCEPT, 4, 1, i);
            CHECK.pass(x, PREACCEPT, 4, 2, i);
        }
        Check.loseAll(x);
        x.propose(3, 0, true, 3);
        Check.loseAll(x);
        x.propose(0, 0, false, 0);
        CHECK.pass(x, PREACCEPT, 0, 1, 0);
        CHECK.pass(x, PREACCEPT, 0, 2, 0);
        CHECK.entry("asked", x, 0, 0, 1, 0, 1, 0, 0);
        CHECK.pass(x, PREACCEPTOK, 1, 0, 0);
        CHECK.pass(x, PREACCEPTOK, 2, 0, 0);
        CHECK.due("two alike", x.state(0, 0), 1);
        CHECK.ask(x, PREACCEPT, 0, 3, 0);
        CHECK.entry("the third is unlike: all their deps", x, 0, 0, 2, 0, 3, 3 << 24 | 1 << 18, 0);
        LeaderlessMap y = new LeaderlessMap(5);
        y.propose(4, 0, true, 1);
        for (int r = 0; r <= 2; r++) {
            CHECK.pass(y, PREACCEPT, 4, r, 24);
        }
        Check.loseAll(y);
        y.propose(3, 0, false, 0);
        CHECK.entry("asked", y, 3, 18, 1, 0, 1, 0, 0);
        for (int r : new int[] {4, 0, 1}) {
            CHECK.ask(y, PREACCEPT, 3, r, 18);
        }
        CHECK.entry("three alike", y, 3, 18, 3, 0, 2, 1 << 24, 0);
        CHECK.pass(y, COMMIT, 3, 2, 18);
        CHECK.entry("and that is what goes out", y, 2, 18, 3, 0, 2, 1 << 24, 0);
    }

    /** Replica 4 of 5 preaccepts instance 0 anew with ballot 4; replica 1 knows one PUT more, 3 two. */
    private static LeaderlessMap slow() {
        LeaderlessMap x = new LeaderlessMap(5);
        x.propose(1, 0, true, 1);
        x.propose(3, 0, true, 1);
        x.propose(3, 0, true, 1);
        x.propose(0, 0, true, 9);
        Check.loseAll(x);
        x.prepare(4, 0);
        CHECK.ask(x, PREPARE, 4, 0, 0);
        CHECK.ask(x, PREPARE, 4, 2, 0);
        CHECK.entry("preaccepts anew", x, 4, 0, 1, 4, 1, 0, 4);
        return x;
    }

    private static void slowReplies() {
        CHECK.sentence("Else, if at least F were counted, and the attempt is not fast: ACCEPTING begins with the greatest seq and all the deps");
        LeaderlessMap x = slow();
        CHECK.ask(x, PREACCEPT, 4, 0, 0);
        CHECK.due("F - 1", x.state(4, 0), 1);
        CHECK.ask(x, PREACCEPT, 4, 2, 0);
        CHECK.entry("F, all alike", x, 4, 0, 2, 4, 1, 0, 4);
        LeaderlessMap y = slow();
        CHECK.ask(y, PREACCEPT, 4, 3, 0);
        CHECK.due("F - 1", y.state(4, 0), 1);
        CHECK.ask(y, PREACCEPT, 4, 1, 0);
        CHECK.entry("F, unlike", y, 4, 0, 2, 4, 3, 3 << 18 | 1 << 6, 4);
        LeaderlessMap z = new LeaderlessMap(3);
        anewWithThree(z);
        CHECK.ask(z, PREACCEPT, 0, 2, 0);
        CHECK.entry("F of 3: never committed by PREACCEPTOKs", z, 0, 0, 2, 4, 1, 0, 3);
    }

    private static void acceptBelowPromised() {
        CHECK.sentence("ACCEPT: nothing if its ballot is below PROMISED");
        CHECK.nothing("1 below 2", 3, x -> {
            x.prepare(1, 0);
            CHECK.ask(x, PREPARE, 1, 0, 0);
            x.prepare(2, 0);
        }, ACCEPT, 1, 2, 0);
        CHECK.nothing("0 below 3, the entry is PREACCEPTED", 5, x -> {
            acceptingWithBallotZero(x);
            CHECK.pass(x, PREACCEPT, 0, 3, 0);
            x.prepare(3, 0);
        }, ACCEPT, 0, 3, 0);
        CHECK.nothing("0 below 4, the entry is UNKNOWN", 5, x -> {
            acceptingWithBallotZero(x);
            x.prepare(4, 0);
        }, ACCEPT, 0, 4, 0);
    }

    private static void acceptEqualAndAbove() {
        CHECK.sentence("Else PROMISED and VOTED become its ballot, the entry becomes ACCEPTED; an ACCEPTOK goes back");
        LeaderlessMap x = new LeaderlessMap(5);
        acceptingWithBallotZero(x);
        CHECK.pass(x, ACCEPT, 0, 4, 0);
        CHECK.entry("equal, over UNKNOWN", x, 4, 0, 2, 4, 2, 1 << 6, 0);
        CHECK.due("goes back", x.message(x.waiting() - 1), Check.number(ACCEPTOK, 4, 0, 0));
        CHECK.pass(x, ACCEPT, 0, 2, 0);
        CHECK.entry("equal, over PREACCEPTED", x, 2, 0, 2, 4, 2, 1 << 6, 0);
        LeaderlessMap y = new LeaderlessMap(3);
        y.propose(0, 0, true, 9);
        y.prepare(2, 0);
        CHECK.ask(y, PREPARE, 2, 1, 0);
        CHECK.pass(y, ACCEPT, 2, 0, 0);
        CHECK.entry("above, over PREACCEPTED", y, 0, 0, 2, 8, 0, 0, 2);
        CHECK.due("goes back", y.message(y.waiting() - 1), Check.number(ACCEPTOK, 0, 2, 0));
        CHECK.due("1 prepares", y.prepare(1, 0), 4);
        CHECK.pass(y, PREPARE, 1, 0, 0);
        CHECK.entry("promised", y, 0, 0, 2, 8, 0, 0, 4);
        CHECK.pass(y, PROMISE, 0, 1, 0);
        CHECK.pass(y, ACCEPT, 1, 0, 0);
        CHECK.entry("equal, over ACCEPTED", y, 0, 0, 2, 8, 0, 0, 4);
        CHECK.due("goes back", y.message(y.waiting() - 1), Check.number(ACCEPTOK, 0, 1, 0));
    }

    /** Replica 1 of 3 is accepting NOTHING for instance 0 with ballot 1, and 2's ACCEPTOK is under way. */
    private static void acceptingWithBallotOne(LeaderlessMap x) {
        x.prepare(1, 0);
        CHECK.ask(x, PREPARE, 1, 2, 0);
        CHECK.pass(x, ACCEPT, 1, 2, 0);
    }

    private static void acceptOkOfADeadAttempt() {
        CHECK.sentence("ACCEPTOK: counts if the attempt is alive");
        CHECK.nothing("PROMISED was raised by a PREPARE", 3, x -> {
            acceptingWithBallotOne(x);
            x.prepare(0, 0);
            CHECK.pass(x, PREPARE, 0, 1, 0);
        }, ACCEPTOK, 2, 1, 0);
        CHECK.nothing("PROMISED was raised by an ACCEPT", 3, x -> {
            acceptingWithBallotOne(x);
            x.prepare(0, 0);
            CHECK.ask(x, PREPARE, 0, 2, 0);
            CHECK.pass(x, ACCEPT, 0, 1, 0);
        }, ACCEPTOK, 2, 1, 0);
        for (boolean executed : new boolean[] {false, true}) {
            CHECK.nothing("the entry is settled, PROMISED is its ballot still", 3, settled(x -> {
                acceptingWithBallotOne(x);
                x.prepare(0, 0);
                CHECK.ask(x, PREPARE, 0, 2, 0);
                CHECK.ask(x, ACCEPT, 0, 2, 0);
                CHECK.pass(x, COMMIT, 0, 1, 0);
                CHECK.due("PROMISED", x.promised(1, 0), 1);
            }, 1, executed), ACCEPTOK, 2, 1, 0);
        }
    }

    private static void acceptOkOfAnotherBallot() {
        CHECK.sentence("ACCEPTOK: counts if the attempt is accepting, with its ballot");
        CHECK.nothing("it is preparing", 3, x -> {
            acceptingWithBallotOne(x);
            x.prepare(1, 0);
        }, ACCEPTOK, 2, 1, 0);
        CHECK.nothing("1 of 4", 3, x -> {
            acceptingWithBallotOne(x);
            CHECK.drop(x, PREPARE, 1, 0, 0);
            x.prepare(1, 0);
            CHECK.ask(x, PREPARE, 1, 0, 0);
            CHECK.entry("it is accepting anew", x, 1, 0, 2, 8, 0, 0, 4);
        }, ACCEPTOK, 2, 1, 0);
    }

    private static void enoughAcceptOks() {
        CHECK.sentence("When F were counted, the instance is committed here with the entry's seq and deps");
        LeaderlessMap x = new LeaderlessMap(5);
        acceptingWithBallotZero(x);
        CHECK.ask(x, ACCEPT, 0, 3, 0);
        CHECK.due("F - 1 of 5", x.state(0, 0), 2);
        CHECK.ask(x, ACCEPT, 0, 4, 0);
        CHECK.entry("F of 5", x, 0, 0, 3, 4, 2, 1 << 6, 0);
        CHECK.nothing("F + 1 of 5", 5, y -> {
            acceptingWithBallotZero(y);
            CHECK.ask(y, ACCEPT, 0, 3, 0);
            CHECK.ask(y, ACCEPT, 0, 4, 0);
            CHECK.pass(y, ACCEPT, 0, 1, 0);
        }, ACCEPTOK, 1, 0, 0);
        LeaderlessMap z = new LeaderlessMap(3);
        acceptingWithBallotOne(z);
        CHECK.due("none of 3", z.state(1, 0), 2);
        CHECK.pass(z, ACCEPTOK, 2, 1, 0);
        CHECK.entry("F of 3", z, 1, 0, 3, 8, 0, 0, 1);
    }

    private static void commitOfAnOpenOne() {
        CHECK.sentence("COMMIT: if the entry is not settled, it becomes COMMITTED with its command, seq and deps");
        LeaderlessMap x = new LeaderlessMap(5);
        acceptingWithBallotZero(x);
        CHECK.ask(x, ACCEPT, 0, 3, 0);
        CHECK.ask(x, ACCEPT, 0, 1, 0);
        int[] stateBefore = {0, 2, 1, 2, 0};
        for (int r = 1; r <= 4; r++) {
            CHECK.due("before, at " + r, x.state(r, 0), stateBefore[r]);
            CHECK.pass(x, COMMIT, 0, r, 0);
            CHECK.entry("after", x, r, 0, 3, 4, 2, 1 << 6, 0);
        }
        LeaderlessMap y = new LeaderlessMap(3);
        y.propose(0, 0, true, 9);
        CHECK.ask(y, PREACCEPT, 0, 1, 0);
        y.prepare(2, 0);
        CHECK.due("2 prepares anew", y.prepare(2, 0), 5);
        CHECK.pass(y, COMMIT, 0, 2, 0);
        CHECK.entry("whatever it promised", y, 2, 0, 3, 4, 1, 0, 5);
    }

    private static void commitOfASettledOne() {
        CHECK.sentence("COMMIT: if the entry is not settled");
        for (boolean executed : new boolean[] {false, true}) {
            CHECK.nothing("it is settled", 3, settled(x -> {
                x.propose(0, 0, true, 9);
                x.prepare(2, 0);
                CHECK.ask(x, PREACCEPT, 0, 1, 0);
                CHECK.pass(x, PREPARE, 2, 0, 0);
                CHECK.pass(x, COMMIT, 0, 2, 0);
                CHECK.entry("settled", x, 2, 0, 3, 4, 1, 0, 2);
            }, 2, executed), COMMIT, 0, 2, 0);
        }
    }

    private static void prepareNotAbovePromised() {
        CHECK.sentence("PREPARE: nothing if its ballot is not above PROMISED");
        CHECK.nothing("1 below 2", 3, x -> {
            x.prepare(1, 0);
            x.prepare(2, 0);
        }, PREPARE, 1, 2, 0);
        CHECK.nothing("1 equal to 1", 3, x -> {
            acceptingWithBallotOne(x);
            CHECK.pass(x, ACCEPT, 1, 0, 0);
            CHECK.due("PROMISED", x.promised(0, 0), 1);
        }, PREPARE, 1, 0, 0);
        CHECK.nothing("3 equal to 3", 3, x -> {
            anewWithThree(x);
            CHECK.pass(x, PREACCEPT, 0, 1, 0);
            CHECK.due("PROMISED", x.promised(1, 0), 3);
        }, PREPARE, 0, 1, 0);
        CHECK.nothing("an older one of the same replica", 3, x -> {
            x.prepare(1, 0);
            CHECK.pass(x, PREPARE, 1, 2, 0);
            CHECK.drop(x, PREPARE, 1, 0, 0);
            x.prepare(1, 0);
            x.prepare(0, 0);
            CHECK.due("PROMISED", x.prepare(0, 0), 6);
        }, PREPARE, 1, 0, 0);
    }

    private static void prepareAbovePromised() {
        CHECK.sentence("Else PROMISED becomes its ballot; a PROMISE with the ballot and the entry goes back");
        LeaderlessMap x = new LeaderlessMap(3);
        x.prepare(1, 0);
        x.prepare(2, 0);
        CHECK.pass(x, PREPARE, 1, 0, 0);
        CHECK.due("1 above 0", x.promised(0, 0), 1);
        CHECK.pass(x, PREPARE, 2, 0, 0);
        CHECK.due("2 above 1", x.promised(0, 0), 2);
        CHECK.messages("both went back", x, Check.m(PREPARE, 1, 2, 0), Check.m(PREPARE, 2, 1, 0), Check.m(PROMISE, 0, 1, 0),
            Check.m(PROMISE, 0, 2, 0));
        CHECK.pass(x, PROMISE, 0, 1, 0);
        CHECK.entry("the older one was true when it was sent", x, 1, 0, 2, 8, 0, 0, 1);
        CHECK.pass(x, ACCEPT, 1, 2, 0);
        CHECK.due("1 below 2", x.state(2, 0), 0);
        CHECK.due("an ACCEPTED one is open still", x.deliver(1), PREPARE);
        CHECK.due("it promises", x.promised(1, 0), 2);
        CHECK.due("a PROMISE, no COMMIT", x.message(x.waiting() - 1), Check.number(PROMISE, 1, 2, 0));
    }

    private static void promiseOfADeadAttempt() {
        CHECK.sentence("PROMISE: counts if the attempt is alive");
        CHECK.nothing("PROMISED was raised by a PREPARE", 3, x -> {
            x.prepare(1, 0);
            CHECK.pass(x, PREPARE, 1, 0, 0);
            x.prepare(2, 0);
            CHECK.pass(x, PREPARE, 2, 1, 0);
        }, PROMISE, 0, 1, 0);
        CHECK.nothing("PROMISED was raised by an ACCEPT", 3, x -> {
            x.prepare(1, 0);
            CHECK.pass(x, PREPARE, 1, 0, 0);
            x.prepare(2, 0);
            CHECK.ask(x, PREPARE, 2, 0, 0);
            CHECK.pass(x, ACCEPT, 2, 1, 0);
        }, PROMISE, 0, 1, 0);
        for (boolean executed : new boolean[] {false, true}) {
            CHECK.nothing("the entry is settled, PROMISED is its ballot still", 3, settled(x -> {
                x.prepare(1, 0);
                CHECK.pass(x, PREPARE, 1, 0, 0);
                x.prepare(2, 0);
                CHECK.ask(x, PREPARE, 2, 0, 0);
                CHECK.ask(x, ACCEPT, 2, 0, 0);
                CHECK.pass(x, COMMIT, 2, 1, 0);
                CHECK.due("PROMISED", x.promised(1, 0), 1);
            }, 1, executed), PROMISE, 0, 1, 0);
        }
    }

    private static void promiseInAnotherPhase() {
        CHECK.sentence("PROMISE: counts if the attempt is preparing");
        CHECK.nothing("it is accepting, with its ballot", 3, x -> {
            x.prepare(1, 0);
            CHECK.ask(x, PREPARE, 1, 2, 0);
            CHECK.pass(x, PREPARE, 1, 0, 0);
        }, PROMISE, 0, 1, 0);
        CHECK.nothing("it is preaccepting, with its ballot", 3, x -> {
            anewWithThree(x);
            CHECK.pass(x, PREPARE, 0, 1, 0);
        }, PROMISE, 1, 0, 0);
    }

    private static void promiseOfAnotherBallot() {
        CHECK.sentence("PROMISE: counts if the attempt is preparing, with its ballot");
        CHECK.nothing("1 of 4", 3, x -> {
            x.prepare(1, 0);
            CHECK.pass(x, PREPARE, 1, 2, 0);
            CHECK.due("ballot", x.prepare(1, 0), 4);
        }, PROMISE, 2, 1, 0);
        CHECK.nothing("5 of 10, one of two was counted", 5, x -> {
            x.prepare(0, 7);
            CHECK.pass(x, PREPARE, 0, 1, 7);
            CHECK.drop(x, PREPARE, 0, 2, 7);
            CHECK.due("ballot", x.prepare(0, 7), 10);
            CHECK.ask(x, PREPARE, 0, 2, 7);
        }, PROMISE, 1, 0, 7);
    }

    private static void enoughPromises() {
        CHECK.sentence("When F were counted, then of these F and of the own entry, which counts as one more");
        LeaderlessMap x = new LeaderlessMap(5);
        x.prepare(1, 0);
        CHECK.ask(x, PREPARE, 1, 4, 0);
        CHECK.due("F - 1 of 5", x.state(1, 0), 0);
        CHECK.ask(x, PREPARE, 1, 0, 0);
        CHECK.due("F of 5", x.state(1, 0), 2);
        LeaderlessMap y = new LeaderlessMap(3);
        y.prepare(1, 0);
        CHECK.due("none of 3", y.state(1, 0), 0);
        CHECK.ask(y, PREPARE, 1, 2, 0);
        CHECK.due("F of 3", y.state(1, 0), 2);
    }
}
