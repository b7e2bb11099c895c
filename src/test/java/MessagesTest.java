/** What a replica does with each kind of message, in runs that are worked out by hand from the document. */
public final class MessagesTest implements Kinds {
    private static final Check CHECK = new Check("MessagesTest");

    public static void main(String[] args) {
        fastWithThree();
        fastWithFive();
        thirdReplyDiffers();
        secondReplyDiffers();
        unlikeInSeqAlone();
        unlikeInDepsAlone();
        oldPreaccept();
        preacceptAfterItsAccept();
        preacceptOverOlderAccept();
        repliesOfADeadAttempt();
        replyAfterACommitFromElsewhere();
        acceptBelowPromised();
        acceptOks();
        settledAnswersCommit();
        commitOfASettledOne();
        prepareNotAbove();
        promiseIsASnapshot();
        promisesOfAnOlderBallot();
        lastAcceptedWins(true);
        lastAcceptedWins(false);
        acceptingBeginsWithAVote();
        acceptedGoesBeforeAlike();
        preacceptedByTwoOfFive();
        ownEntryCounts();
        ownersVoteDoesNotCount();
        laterVoteDoesNotCount();
        unlikeVotesDoNotCount();
        nobodyKnows();
        CHECK.end();
    }

    private static void fastWithThree() {
        LeaderlessMap x = new LeaderlessMap(3);
        x.propose(1, 0, true, 1);
        x.propose(2, 0, true, 2);
        CHECK.pass(x, PREACCEPT, 1, 2, 6);
        CHECK.entry("fitted to what is asked and to what it knows", x, 2, 6, 1, 4, 2, 1 << 12, 0);
        CHECK.pass(x, PREACCEPTOK, 2, 1, 6);
        CHECK.entry("one reply is enough, whatever it says", x, 1, 6, 3, 4, 2, 1 << 12, 0);
        CHECK.messages("COMMIT to all others", x, Check.m(PREACCEPT, 2, 0, 12), Check.m(COMMIT, 1, 0, 6), Check.m(COMMIT, 1, 2, 6));
        CHECK.pass(x, COMMIT, 1, 0, 6);
        CHECK.entry("COMMIT at one that did not know", x, 0, 6, 3, 4, 2, 1 << 12, 0);
        CHECK.pass(x, PREACCEPT, 2, 0, 12);
        CHECK.entry("a COMMITTED one is related too", x, 0, 12, 1, 4, 3, 1 << 6, 0);
    }

    private static void fastWithFive() {
        LeaderlessMap x = new LeaderlessMap(5);
        x.propose(0, 3, false, 1);
        x.propose(4, 3, true, 1);
        Check.loseAll(x);
        x.propose(0, 3, true, 1);
        CHECK.entry("at the owner", x, 0, 1, 1, 7, 2, 1, 0);
        for (int r = 1; r <= 3; r++) {
            CHECK.pass(x, PREACCEPT, 0, r, 1);
            CHECK.entry("deps that are asked for stay", x, r, 1, 1, 7, 2, 1, 0);
        }
        CHECK.pass(x, PREACCEPTOK, 1, 0, 1);
        CHECK.pass(x, PREACCEPTOK, 3, 0, 1);
        CHECK.due("two alike are not yet enough", x.state(0, 1), 1);
        CHECK.due("nothing is sent", x.waiting(), 1);
        CHECK.pass(x, PREACCEPTOK, 2, 0, 1);
        CHECK.entry("three alike are", x, 0, 1, 3, 7, 2, 1, 0);
        CHECK.messages("to all others", x, Check.m(COMMIT, 0, 1, 1), Check.m(COMMIT, 0, 2, 1), Check.m(COMMIT, 0, 3, 1), Check.m(COMMIT, 0, 4, 1));
    }

    /** Replicas 1 and 3 of 5 each know a PUT of key 0 of their own, as 6 and 18. */
    private static LeaderlessMap fiveWithTwoPuts() {
        LeaderlessMap x = new LeaderlessMap(5);
        x.propose(1, 0, true, 1);
        x.propose(3, 0, true, 3);
        x.propose(3, 0, true, 3);
        Check.loseAll(x);
        return x;
    }

    /** And 0 has heard from 1 and 2 about its PUT of key 0: ACCEPTs with seq 2 and 6 as deps are under way. */
    private static LeaderlessMap fiveAccepting() {
        LeaderlessMap x = fiveWithTwoPuts();
        x.propose(0, 0, true, 9);
        CHECK.pass(x, PREACCEPT, 0, 1, 0);
        CHECK.pass(x, PREACCEPT, 0, 2, 0);
        CHECK.pass(x, PREACCEPTOK, 1, 0, 0);
        CHECK.pass(x, PREACCEPTOK, 2, 0, 0);
        return x;
    }

    private static void thirdReplyDiffers() {
        LeaderlessMap x = new LeaderlessMap(5);
        x.propose(3, 0, true, 3);
        Check.loseAll(x);
        x.propose(0, 0, true, 9);
        for (int r = 1; r <= 3; r++) {
            CHECK.pass(x, PREACCEPT, 0, r, 0);
        }
        for (int r = 1; r <= 2; r++) {
            CHECK.pass(x, PREACCEPTOK, r, 0, 0);
        }
        CHECK.due("still preaccepting", x.state(0, 0), 1);
        CHECK.pass(x, PREACCEPTOK, 3, 0, 0);
        CHECK.entry("accepting with the greatest seq and all deps", x, 0, 0, 2, 4, 2, 1 << 18, 0);
        CHECK.messages("ACCEPT to all others", x, Check.m(ACCEPT, 0, 1, 0), Check.m(ACCEPT, 0, 2, 0), Check.m(ACCEPT, 0, 3, 0), Check.m(ACCEPT, 0, 4, 0));
    }

    private static void secondReplyDiffers() {
        LeaderlessMap x = fiveWithTwoPuts();
        x.propose(0, 0, true, 9);
        for (int r = 1; r <= 3; r++) {
            CHECK.pass(x, PREACCEPT, 0, r, 0);
        }
        CHECK.entry("at 1", x, 1, 0, 1, 4, 2, 1 << 6, 0);
        CHECK.entry("at 2", x, 2, 0, 1, 4, 1, 0, 0);
        CHECK.entry("at 3", x, 3, 0, 1, 4, 3, 3 << 18, 0);
        CHECK.pass(x, PREACCEPTOK, 3, 0, 0);
        CHECK.due("one reply is not enough", x.state(0, 0), 1);
        CHECK.pass(x, PREACCEPTOK, 1, 0, 0);
        CHECK.entry("the greatest seq came first, the deps from both", x, 0, 0, 2, 4, 3, 3 << 18 | 1 << 6, 0);
        CHECK.due("ACCEPTs and the reply that is left", x.waiting(), 5);
        CHECK.pass(x, PREACCEPTOK, 2, 0, 0);
        CHECK.due("a reply to the phase before does not count", x.waiting(), 4);
        CHECK.pass(x, ACCEPT, 0, 4, 0);
        CHECK.entry("ACCEPTED as told", x, 4, 0, 2, 4, 3, 3 << 18 | 1 << 6, 0);
        CHECK.pass(x, ACCEPT, 0, 2, 0);
        CHECK.entry("ACCEPTED as told, over PREACCEPTED", x, 2, 0, 2, 4, 3, 3 << 18 | 1 << 6, 0);
        CHECK.pass(x, ACCEPTOK, 4, 0, 0);
        CHECK.due("one ACCEPTOK of F, the PREACCEPTOK is none", x.state(0, 0), 2);
        CHECK.pass(x, ACCEPTOK, 2, 0, 0);
        CHECK.entry("F of F", x, 0, 0, 3, 4, 3, 3 << 18 | 1 << 6, 0);
    }

    private static void unlikeInSeqAlone() {
        LeaderlessMap x = new LeaderlessMap(5);
        x.propose(2, 0, false, 0);
        Check.loseAll(x);
        x.propose(4, 0, true, 5);
        CHECK.pass(x, PREACCEPT, 4, 1, 24);
        CHECK.pass(x, PREACCEPT, 4, 2, 24);
        Check.loseAll(x);
        x.propose(0, 0, false, 0);
        CHECK.pass(x, PREACCEPT, 0, 1, 0);
        CHECK.pass(x, PREACCEPT, 0, 2, 0);
        CHECK.entry("the PUT has seq 1 there", x, 1, 0, 1, 0, 2, 1 << 24, 0);
        CHECK.entry("the PUT has seq 2 there", x, 2, 0, 1, 0, 3, 1 << 24, 0);
        x.prepare(3, 0);
        CHECK.pass(x, PREACCEPTOK, 1, 0, 0);
        CHECK.pass(x, PREACCEPTOK, 2, 0, 0);
        CHECK.entry("replies of one deps and two seqs", x, 0, 0, 2, 0, 3, 1 << 24, 0);
        CHECK.pass(x, PREPARE, 3, 1, 0);
        CHECK.pass(x, PREPARE, 3, 2, 0);
        CHECK.pass(x, PROMISE, 1, 3, 0);
        CHECK.pass(x, PROMISE, 2, 3, 0);
        CHECK.entry("PROMISEs of one deps and two seqs", x, 3, 0, 1, 0, 1, 0, 3);
    }

    private static void unlikeInDepsAlone() {
        LeaderlessMap x = new LeaderlessMap(5);
        x.propose(1, 0, true, 0);
        x.propose(2, 0, true, 0);
        Check.loseAll(x);
        x.propose(0, 0, false, 0);
        CHECK.pass(x, PREACCEPT, 0, 1, 0);
        CHECK.pass(x, PREACCEPT, 0, 2, 0);
        x.prepare(3, 0);
        CHECK.pass(x, PREACCEPTOK, 1, 0, 0);
        CHECK.pass(x, PREACCEPTOK, 2, 0, 0);
        CHECK.entry("replies of one seq and two deps", x, 0, 0, 2, 0, 2, 1 << 6 | 1 << 12, 0);
        CHECK.pass(x, PREPARE, 3, 1, 0);
        CHECK.pass(x, PREPARE, 3, 2, 0);
        CHECK.pass(x, PROMISE, 1, 3, 0);
        CHECK.pass(x, PROMISE, 2, 3, 0);
        CHECK.entry("PROMISEs of one seq and two deps", x, 3, 0, 1, 0, 1, 0, 3);
    }

    private static void oldPreaccept() {
        LeaderlessMap x = new LeaderlessMap(3);
        x.propose(0, 0, true, 1);
        x.prepare(1, 0);
        CHECK.pass(x, PREACCEPT, 0, 1, 0);
        CHECK.entry("below PROMISED", x, 1, 0, 0, -1, -1, -1, 1);
        CHECK.messages("no reply", x, Check.m(PREPARE, 1, 0, 0), Check.m(PREPARE, 1, 2, 0));
    }

    private static void preacceptAfterItsAccept() {
        LeaderlessMap x = fiveAccepting();
        CHECK.pass(x, ACCEPT, 0, 3, 0);
        CHECK.entry("ACCEPTED with ballot 0", x, 3, 0, 2, 4, 2, 1 << 6, 0);
        int before = x.waiting();
        CHECK.pass(x, PREACCEPT, 0, 3, 0);
        CHECK.entry("its PREACCEPT comes too late", x, 3, 0, 2, 4, 2, 1 << 6, 0);
        CHECK.due("no reply to it", x.waiting(), before - 1);
    }

    private static void preacceptOverOlderAccept() {
        LeaderlessMap x = fiveAccepting();
        CHECK.pass(x, ACCEPT, 0, 4, 0);
        Check.loseAll(x);
        CHECK.due("3 prepares", x.prepare(3, 0), 3);
        CHECK.pass(x, PREPARE, 3, 1, 0);
        CHECK.pass(x, PREPARE, 3, 2, 0);
        CHECK.pass(x, PROMISE, 1, 3, 0);
        CHECK.due("one PROMISE of F", x.state(3, 0), 0);
        CHECK.pass(x, PROMISE, 2, 3, 0);
        CHECK.entry("preaccepts anew, fitted to seq 1 and no deps", x, 3, 0, 1, 4, 3, 3 << 18, 3);
        CHECK.entry("4 before", x, 4, 0, 2, 4, 2, 1 << 6, 0);
        CHECK.pass(x, PREACCEPT, 3, 4, 0);
        CHECK.entry("a later ballot's PREACCEPT takes the place of the ACCEPT", x, 4, 0, 1, 4, 3, 3 << 18, 3);
        CHECK.pass(x, PREACCEPT, 3, 1, 0);
        CHECK.entry("its ballot is PROMISED: taken", x, 1, 0, 1, 4, 3, 3 << 18 | 1 << 6, 3);
        CHECK.pass(x, PREACCEPTOK, 4, 3, 0);
        CHECK.due("not fast, one reply of F", x.state(3, 0), 1);
        CHECK.pass(x, PREACCEPT, 3, 2, 0);
        CHECK.pass(x, PREACCEPTOK, 2, 3, 0);
        CHECK.entry("not fast: F alike begin accepting", x, 3, 0, 2, 4, 3, 3 << 18, 3);
    }

    private static void repliesOfADeadAttempt() {
        LeaderlessMap x = new LeaderlessMap(3);
        x.propose(0, 0, true, 1);
        CHECK.pass(x, PREACCEPT, 0, 1, 0);
        x.prepare(2, 0);
        CHECK.pass(x, PREPARE, 2, 0, 0);
        CHECK.pass(x, PREACCEPTOK, 1, 0, 0);
        CHECK.entry("it has promised another ballot", x, 0, 0, 1, 4, 1, 0, 2);
        LeaderlessMap y = new LeaderlessMap(3);
        y.propose(0, 0, true, 1);
        CHECK.pass(y, PREACCEPT, 0, 1, 0);
        y.prepare(0, 0);
        CHECK.pass(y, PREACCEPTOK, 1, 0, 0);
        CHECK.entry("its new attempt took the place of the old", y, 0, 0, 1, 4, 1, 0, 3);
    }

    private static void replyAfterACommitFromElsewhere() {
        LeaderlessMap x = new LeaderlessMap(3);
        x.propose(0, 0, true, 1);
        CHECK.pass(x, PREACCEPT, 0, 1, 0);
        x.prepare(2, 0);
        CHECK.pass(x, PREPARE, 2, 1, 0);
        CHECK.pass(x, PROMISE, 1, 2, 0);
        CHECK.pass(x, ACCEPT, 2, 1, 0);
        CHECK.pass(x, ACCEPTOK, 1, 2, 0);
        CHECK.pass(x, COMMIT, 2, 0, 0);
        CHECK.due("0 executes it", x.execute(0), 1);
        int before = x.waiting();
        CHECK.pass(x, PREACCEPTOK, 1, 0, 0);
        CHECK.entry("PROMISED is its ballot still, but the entry is settled", x, 0, 0, 4, 4, 1, 0, 0);
        CHECK.due("nothing is sent", x.waiting(), before - 1);
    }

    private static void acceptBelowPromised() {
        LeaderlessMap x = new LeaderlessMap(3);
        x.prepare(1, 0);
        CHECK.pass(x, PREPARE, 1, 0, 0);
        CHECK.pass(x, PROMISE, 0, 1, 0);
        CHECK.due("2 prepares too", x.prepare(2, 0), 2);
        CHECK.pass(x, ACCEPT, 1, 2, 0);
        CHECK.entry("below PROMISED", x, 2, 0, 0, -1, -1, -1, 2);
        CHECK.due("PREPARE to 2, two new ones and ACCEPT to 0", x.waiting(), 4);
        CHECK.pass(x, ACCEPT, 1, 0, 0);
        CHECK.entry("equal to PROMISED", x, 0, 0, 2, 8, 0, 0, 1);
        CHECK.pass(x, PREPARE, 2, 1, 0);
        CHECK.pass(x, ACCEPTOK, 0, 1, 0);
        CHECK.entry("its attempt is dead", x, 1, 0, 2, 8, 0, 0, 2);
    }

    private static void acceptOks() {
        LeaderlessMap x = new LeaderlessMap(5);
        x.prepare(1, 29);
        for (int r = 2; r <= 3; r++) {
            CHECK.pass(x, PREPARE, 1, r, 29);
            CHECK.pass(x, PROMISE, r, 1, 29);
        }
        for (int r = 0; r <= 4; r++) {
            if (r != 1) {
                CHECK.pass(x, ACCEPT, 1, r, 29);
            }
        }
        CHECK.entry("ACCEPT raises PROMISED", x, 0, 29, 2, 8, 0, 0, 1);
        CHECK.pass(x, ACCEPTOK, 4, 1, 29);
        CHECK.due("one of F", x.state(1, 29), 2);
        CHECK.pass(x, ACCEPTOK, 0, 1, 29);
        CHECK.entry("F of F", x, 1, 29, 3, 8, 0, 0, 1);
        int before = x.waiting();
        CHECK.pass(x, ACCEPTOK, 2, 1, 29);
        CHECK.due("one more changes nothing", x.waiting(), before - 1);
        x.crash(0);
        CHECK.pass(x, COMMIT, 1, 0, 29);
        CHECK.due("a crashed one stays as it is", x.state(0, 29), 2);
        CHECK.pass(x, COMMIT, 1, 4, 29);
        CHECK.entry("COMMIT leaves PROMISED", x, 4, 29, 3, 8, 0, 0, 1);
        CHECK.pass(x, PREPARE, 1, 4, 29);
        CHECK.due("settled: COMMIT back", x.message(x.waiting() - 1), COMMIT + 8 * 4 + 64 + 512 * 29);
    }

    private static void settledAnswersCommit() {
        LeaderlessMap x = new LeaderlessMap(3);
        x.propose(0, 2, true, 6);
        x.prepare(2, 0);
        CHECK.pass(x, PREPARE, 2, 1, 0);
        CHECK.pass(x, PROMISE, 1, 2, 0);
        CHECK.pass(x, ACCEPT, 2, 0, 0);
        CHECK.entry("0 took NOTHING", x, 0, 0, 2, 8, 0, 0, 2);
        CHECK.pass(x, ACCEPTOK, 0, 2, 0);
        CHECK.pass(x, COMMIT, 2, 1, 0);
        CHECK.due("1 executes it", x.execute(1), 1);
        CHECK.messages("left", x, Check.m(PREACCEPT, 0, 1, 0), Check.m(PREPARE, 2, 0, 0), Check.m(ACCEPT, 2, 1, 0), Check.m(COMMIT, 2, 0, 0));
        CHECK.pass(x, PREACCEPT, 0, 1, 0);
        CHECK.pass(x, ACCEPT, 2, 1, 0);
        CHECK.messages("COMMITs back", x, Check.m(PREPARE, 2, 0, 0), Check.m(COMMIT, 2, 0, 0), Check.m(COMMIT, 1, 0, 0), Check.m(COMMIT, 1, 2, 0));
        CHECK.entry("the settled one stays", x, 1, 0, 4, 8, 0, 0, 2);
        CHECK.pass(x, COMMIT, 1, 0, 0);
        CHECK.entry("the COMMIT back settles it", x, 0, 0, 3, 8, 0, 0, 2);
        CHECK.pass(x, PREPARE, 2, 0, 0);
        CHECK.due("PREPARE of a settled one", x.message(x.waiting() - 1), COMMIT + 64 * 2);
        CHECK.due("leaves PROMISED", x.promised(0, 0), 2);
    }

    private static void commitOfASettledOne() {
        LeaderlessMap x = new LeaderlessMap(3);
        x.propose(0, 2, true, 6);
        CHECK.pass(x, PREACCEPT, 0, 1, 0);
        x.prepare(2, 0);
        CHECK.pass(x, PREACCEPTOK, 1, 0, 0);
        CHECK.pass(x, PREPARE, 2, 0, 0);
        CHECK.pass(x, COMMIT, 0, 2, 0);
        CHECK.due("2 executes it", x.execute(2), 1);
        x.propose(2, 2, false, 0);
        CHECK.pass(x, COMMIT, 0, 2, 0);
        CHECK.entry("the second COMMIT changes nothing", x, 2, 0, 4, 6, 1, 0, 2);
        CHECK.due("it is not executed again", x.execute(2), 0);
        CHECK.due("its place stays", x.place(2, 0), 0);
    }

    private static void prepareNotAbove() {
        LeaderlessMap x = new LeaderlessMap(5);
        x.prepare(4, 0);
        for (int r = 1; r <= 2; r++) {
            CHECK.pass(x, PREPARE, 4, r, 0);
            CHECK.pass(x, PROMISE, r, 4, 0);
        }
        CHECK.pass(x, ACCEPT, 4, 3, 0);
        int before = x.waiting();
        CHECK.pass(x, PREPARE, 4, 3, 0);
        CHECK.due("equal to PROMISED: no PROMISE", x.waiting(), before - 1);
        CHECK.entry("and nothing changes", x, 3, 0, 2, 8, 0, 0, 4);
        x.prepare(0, 0);
        x.prepare(0, 0);
        CHECK.due("0 has promised 10", x.promised(0, 0), 10);
        before = x.waiting();
        CHECK.pass(x, PREPARE, 4, 0, 0);
        CHECK.due("below PROMISED: no PROMISE", x.waiting(), before - 1);
        CHECK.due("PROMISED stays", x.promised(0, 0), 10);
        CHECK.pass(x, PREPARE, 0, 4, 0);
        CHECK.due("above PROMISED", x.promised(4, 0), 5);
        CHECK.due("PROMISE", x.message(x.waiting() - 1), PROMISE + 8 * 4);
    }

    private static void promiseIsASnapshot() {
        LeaderlessMap x = new LeaderlessMap(3);
        x.propose(0, 1, true, 6);
        CHECK.pass(x, PREACCEPT, 0, 1, 0);
        CHECK.pass(x, PREACCEPTOK, 1, 0, 0);
        x.prepare(2, 0);
        CHECK.pass(x, PREPARE, 2, 1, 0);
        CHECK.pass(x, COMMIT, 0, 1, 0);
        CHECK.due("1 is COMMITTED by now", x.state(1, 0), 3);
        CHECK.pass(x, PROMISE, 1, 2, 0);
        CHECK.entry("its PROMISE said PREACCEPTED", x, 2, 0, 2, 5, 1, 0, 2);
    }

    private static void promisesOfAnOlderBallot() {
        LeaderlessMap x = new LeaderlessMap(5);
        x.prepare(0, 6);
        CHECK.pass(x, PREPARE, 0, 1, 6);
        CHECK.pass(x, PREPARE, 0, 2, 6);
        x.prepare(0, 6);
        CHECK.pass(x, PROMISE, 1, 0, 6);
        CHECK.pass(x, PROMISE, 2, 0, 6);
        CHECK.entry("two PROMISEs of the first ballot", x, 0, 6, 0, -1, -1, -1, 10);
        CHECK.pass(x, PREPARE, 0, 3, 6);
        CHECK.pass(x, PROMISE, 3, 0, 6);
        CHECK.due("the first PREPARE of 3 was of ballot 5", x.promised(3, 6), 5);
        CHECK.due("so nothing yet", x.state(0, 6), 0);
        CHECK.pass(x, PREPARE, 0, 3, 6);
        CHECK.pass(x, PREPARE, 0, 1, 6);
        CHECK.pass(x, PROMISE, 3, 0, 6);
        CHECK.due("one of the second ballot", x.state(0, 6), 0);
        CHECK.pass(x, PROMISE, 1, 0, 6);
        CHECK.entry("two of the second ballot", x, 0, 6, 2, 8, 0, 0, 10);
    }

    private static void lastAcceptedWins(boolean olderFirst) {
        LeaderlessMap x = fiveAccepting();
        CHECK.pass(x, ACCEPT, 0, 1, 0);
        Check.loseAll(x);
        x.prepare(4, 0);
        CHECK.pass(x, PREPARE, 4, 2, 0);
        CHECK.pass(x, PREPARE, 4, 3, 0);
        CHECK.pass(x, PROMISE, 3, 4, 0);
        CHECK.pass(x, PROMISE, 2, 4, 0);
        CHECK.entry("4 preaccepts", x, 4, 0, 1, 4, 1, 0, 4);
        CHECK.pass(x, PREACCEPT, 4, 2, 0);
        CHECK.pass(x, PREACCEPT, 4, 3, 0);
        CHECK.pass(x, PREACCEPTOK, 2, 4, 0);
        CHECK.pass(x, PREACCEPTOK, 3, 4, 0);
        CHECK.pass(x, ACCEPT, 4, 3, 0);
        Check.loseAll(x);
        CHECK.entry("1 is ACCEPTED with VOTED 0", x, 1, 0, 2, 4, 2, 1 << 6, 0);
        CHECK.entry("3 is ACCEPTED with VOTED 4", x, 3, 0, 2, 4, 3, 3 << 18, 4);
        CHECK.due("2 prepares above 4", x.prepare(2, 0), 7);
        CHECK.pass(x, PREPARE, 2, 1, 0);
        CHECK.pass(x, PREPARE, 2, 3, 0);
        CHECK.pass(x, PROMISE, olderFirst ? 1 : 3, 2, 0);
        CHECK.pass(x, PROMISE, olderFirst ? 3 : 1, 2, 0);
        CHECK.entry("the greatest VOTED", x, 2, 0, 2, 4, 3, 3 << 18, 7);
    }

    private static void acceptingBeginsWithAVote() {
        LeaderlessMap x = fiveAccepting();
        CHECK.pass(x, ACCEPT, 0, 1, 0);
        Check.loseAll(x);
        x.prepare(4, 0);
        for (int r = 2; r <= 3; r++) {
            CHECK.pass(x, PREPARE, 4, r, 0);
            CHECK.pass(x, PROMISE, r, 4, 0);
        }
        for (int r = 2; r <= 3; r++) {
            CHECK.pass(x, PREACCEPT, 4, r, 0);
            CHECK.pass(x, PREACCEPTOK, r, 4, 0);
        }
        Check.loseAll(x);
        CHECK.entry("4 is ACCEPTED with VOTED 4", x, 4, 0, 2, 4, 3, 3 << 18, 4);
        CHECK.due("2 prepares", x.prepare(2, 0), 7);
        CHECK.pass(x, PREPARE, 2, 1, 0);
        CHECK.pass(x, PREPARE, 2, 3, 0);
        CHECK.pass(x, PROMISE, 1, 2, 0);
        CHECK.pass(x, PROMISE, 3, 2, 0);
        Check.loseAll(x);
        CHECK.entry("2 is ACCEPTED as 1 was, with VOTED 7", x, 2, 0, 2, 4, 2, 1 << 6, 7);
        CHECK.due("3 prepares", x.prepare(3, 0), 8);
        CHECK.pass(x, PREPARE, 3, 4, 0);
        CHECK.pass(x, PREPARE, 3, 2, 0);
        CHECK.pass(x, PROMISE, 4, 3, 0);
        CHECK.pass(x, PROMISE, 2, 3, 0);
        CHECK.entry("VOTED 7 is the greatest", x, 3, 0, 2, 4, 2, 1 << 6, 8);
    }

    private static void acceptedGoesBeforeAlike() {
        LeaderlessMap x = new LeaderlessMap(5);
        x.propose(3, 0, true, 3);
        Check.loseAll(x);
        x.propose(0, 0, true, 9);
        for (int r = 1; r <= 3; r++) {
            CHECK.pass(x, PREACCEPT, 0, r, 0);
            CHECK.pass(x, PREACCEPTOK, r, 0, 0);
        }
        CHECK.pass(x, ACCEPT, 0, 4, 0);
        x.prepare(4, 0);
        CHECK.pass(x, PREPARE, 4, 1, 0);
        CHECK.pass(x, PREPARE, 4, 2, 0);
        CHECK.pass(x, PROMISE, 1, 4, 0);
        CHECK.pass(x, PROMISE, 2, 4, 0);
        CHECK.entry("1 and 2 are alike, but 4 is ACCEPTED", x, 4, 0, 2, 4, 2, 1 << 18, 4);
        CHECK.pass(x, ACCEPT, 4, 1, 0);
        CHECK.entry("and that is what goes out", x, 1, 0, 2, 4, 2, 1 << 18, 4);
    }

    private static void preacceptedByTwoOfFive() {
        LeaderlessMap x = new LeaderlessMap(5);
        x.propose(4, 1, true, 5);
        Check.loseAll(x);
        x.propose(0, 1, true, 9);
        CHECK.pass(x, PREACCEPT, 0, 1, 0);
        CHECK.pass(x, PREACCEPT, 0, 2, 0);
        x.crash(0);
        x.prepare(4, 0);
        CHECK.pass(x, PREPARE, 4, 1, 0);
        CHECK.pass(x, PREPARE, 4, 2, 0);
        CHECK.pass(x, PROMISE, 1, 4, 0);
        CHECK.pass(x, PROMISE, 2, 4, 0);
        CHECK.entry("two alike that do not own it: ACCEPTED as they are, not fitted", x, 4, 0, 2, 5, 1, 0, 4);
    }

    private static void ownEntryCounts() {
        LeaderlessMap x = new LeaderlessMap(3);
        x.propose(0, 1, true, 9);
        CHECK.pass(x, PREACCEPT, 0, 1, 0);
        CHECK.due("1 prepares", x.prepare(1, 0), 1);
        CHECK.pass(x, PREPARE, 1, 2, 0);
        CHECK.pass(x, PROMISE, 2, 1, 0);
        CHECK.entry("its own entry is the one", x, 1, 0, 2, 5, 1, 0, 1);
        LeaderlessMap y = new LeaderlessMap(3);
        y.prepare(1, 0);
        CHECK.pass(y, PREPARE, 1, 0, 0);
        CHECK.pass(y, PROMISE, 0, 1, 0);
        CHECK.due("1 is ACCEPTED with NOTHING", y.command(1, 0), 8);
        CHECK.due("1 prepares anew", y.prepare(1, 0), 4);
        CHECK.pass(y, PREPARE, 1, 2, 0);
        CHECK.pass(y, PREPARE, 1, 2, 0);
        CHECK.pass(y, PROMISE, 2, 1, 0);
        CHECK.pass(y, PROMISE, 2, 1, 0);
        CHECK.entry("its own ACCEPTED entry is the one", y, 1, 0, 2, 8, 0, 0, 4);
    }

    private static void ownersVoteDoesNotCount() {
        LeaderlessMap x = new LeaderlessMap(3);
        x.propose(2, 1, true, 5);
        Check.loseAll(x);
        x.propose(0, 1, true, 9);
        Check.loseAll(x);
        x.prepare(2, 0);
        CHECK.pass(x, PREPARE, 2, 0, 0);
        CHECK.pass(x, PROMISE, 0, 2, 0);
        CHECK.entry("only the owner has it: preaccepted anew, fitted here", x, 2, 0, 1, 5, 2, 1 << 12, 2);
        CHECK.messages("to all others", x, Check.m(PREPARE, 2, 1, 0), Check.m(PREACCEPT, 2, 0, 0), Check.m(PREACCEPT, 2, 1, 0));
        LeaderlessMap y = new LeaderlessMap(3);
        y.propose(0, 1, true, 9);
        y.prepare(0, 0);
        CHECK.pass(y, PREPARE, 0, 2, 0);
        CHECK.pass(y, PROMISE, 2, 0, 0);
        CHECK.entry("the owner's own entry does not count either", y, 0, 0, 1, 5, 1, 0, 3);
    }

    private static void laterVoteDoesNotCount() {
        LeaderlessMap x = new LeaderlessMap(3);
        x.propose(0, 1, true, 9);
        Check.loseAll(x);
        x.prepare(2, 0);
        CHECK.pass(x, PREPARE, 2, 0, 0);
        CHECK.pass(x, PROMISE, 0, 2, 0);
        CHECK.pass(x, PREACCEPT, 2, 1, 0);
        CHECK.due("1 voted in ballot 2", x.promised(1, 0), 2);
        CHECK.due("1 prepares", x.prepare(1, 0), 4);
        CHECK.pass(x, PREPARE, 1, 2, 0);
        CHECK.pass(x, PROMISE, 2, 1, 0);
        CHECK.entry("VOTED 2 of both: preaccepted anew", x, 1, 0, 1, 5, 1, 0, 4);
        CHECK.pass(x, PREACCEPT, 1, 2, 0);
        CHECK.pass(x, PREACCEPTOK, 2, 1, 0);
        CHECK.entry("not fast: accepting, not committed", x, 1, 0, 2, 5, 1, 0, 4);
    }

    private static void unlikeVotesDoNotCount() {
        LeaderlessMap x = fiveWithTwoPuts();
        x.propose(0, 0, true, 9);
        CHECK.pass(x, PREACCEPT, 0, 1, 0);
        CHECK.pass(x, PREACCEPT, 0, 3, 0);
        x.prepare(2, 0);
        CHECK.pass(x, PREPARE, 2, 1, 0);
        CHECK.pass(x, PREPARE, 2, 3, 0);
        CHECK.pass(x, PROMISE, 1, 2, 0);
        CHECK.pass(x, PROMISE, 3, 2, 0);
        CHECK.entry("two that differ: preaccepted anew, fitted here", x, 2, 0, 1, 4, 1, 0, 2);
    }

    private static void nobodyKnows() {
        LeaderlessMap x = new LeaderlessMap(5);
        x.propose(4, 1, true, 5);
        Check.loseAll(x);
        x.prepare(4, 7);
        CHECK.pass(x, PREPARE, 4, 0, 7);
        CHECK.pass(x, PREPARE, 4, 3, 7);
        CHECK.pass(x, PROMISE, 0, 4, 7);
        CHECK.due("one of F", x.state(4, 7), 0);
        CHECK.pass(x, PROMISE, 3, 4, 7);
        CHECK.entry("NOTHING is not fitted", x, 4, 7, 2, 8, 0, 0, 4);
        x.propose(4, 3, false, 5);
        CHECK.entry("NOTHING interferes with a GET", x, 4, 25, 1, 3, 1, 1 << 7, 0);
    }
}
