/** The four cases of PROMISE, each with what just belongs to it and what just does not. */
public final class PromiseCasesTest implements Kinds {
    private static final Check CHECK = new Check("PromiseCasesTest");

    public static void main(String[] args) {
        oneAccepted();
        ownAccepted();
        greatestVoted();
        acceptedBeforeAlike();
        acceptedBeforeLaterPreaccepted();
        oneOfThree();
        twoOfFiveAndAnUnknown();
        twoOfFiveAndAnUnlike();
        threeOfFive();
        ownAndOneOfFive();
        tooFewOfFive();
        withTheOwnersTooFew();
        laterVotesTooFew();
        unlikeTooFew();
        preacceptedAnewIsFittedToOne();
        preacceptedAnewTakesTheCommand();
        preacceptedAnewIsAVote();
        preacceptedAnewHasNoReplies();
        nobodyKnows(3);
        nobodyKnows(5);
        acceptingHasNoReplies();
        CHECK.end();
    }

    /** Replica q of 5 prepares instance 0 and hears from the two others. */
    private static LeaderlessMap prepared(LeaderlessMap x, int q, int first, int second) {
        Check.loseAll(x);
        CHECK.due("not refused", x.prepare(q, 0) > 0, true);
        CHECK.ask(x, PREPARE, q, first, 0);
        CHECK.ask(x, PREPARE, q, second, 0);
        return x;
    }

    /**
     * Five replicas. 1, 3 and 4 know PUTs of key 0: 1 has 6, 3 has 18 and 19, 4 has 24 to 26. So replies of theirs
     * about a PUT of key 0 are all unlike, while 0 and 2 know of none.
     */
    private static LeaderlessMap five() {
        LeaderlessMap x = new LeaderlessMap(5);
        x.propose(1, 0, true, 1);
        x.propose(3, 0, true, 1);
        x.propose(3, 0, true, 1);
        x.propose(4, 0, true, 1);
        x.propose(4, 0, true, 1);
        x.propose(4, 0, true, 1);
        Check.loseAll(x);
        return x;
    }

    /** Of these, 0 is accepting its PUT with ballot 0, as 1 and 2 replied: with seq 2 and 6 as deps. */
    private static LeaderlessMap fiveAccepting() {
        LeaderlessMap x = five();
        x.propose(0, 0, true, 9);
        CHECK.ask(x, PREACCEPT, 0, 1, 0);
        CHECK.ask(x, PREACCEPT, 0, 2, 0);
        return x;
    }

    private static void oneAccepted() {
        CHECK.sentence("(1) if one is ACCEPTED: accepting begins with the command, seq and deps of it");
        LeaderlessMap x = fiveAccepting();
        CHECK.pass(x, ACCEPT, 0, 1, 0);
        prepared(x, 4, 3, 1);
        CHECK.entry("not fitted to what 4 knows", x, 4, 0, 2, 4, 2, 1 << 6, 4);
        LeaderlessMap y = new LeaderlessMap(3);
        y.prepare(1, 5);
        CHECK.ask(y, PREPARE, 1, 0, 5);
        CHECK.pass(y, ACCEPT, 1, 0, 5);
        Check.loseAll(y);
        y.propose(2, 1, true, 1);
        y.prepare(2, 5);
        CHECK.ask(y, PREPARE, 2, 0, 5);
        CHECK.entry("NOTHING as well, not fitted", y, 2, 5, 2, 8, 0, 0, 2);
    }

    private static void ownAccepted() {
        CHECK.sentence("(1) if one is ACCEPTED: of these F and of the own entry");
        LeaderlessMap x = fiveAccepting();
        CHECK.pass(x, ACCEPT, 0, 4, 0);
        prepared(x, 4, 2, 3);
        CHECK.entry("its own", x, 4, 0, 2, 4, 2, 1 << 6, 4);
        CHECK.due("ACCEPT to all others", x.message(x.waiting() - 1), Check.number(ACCEPT, 4, 3, 0));
    }

    /** 1 is ACCEPTED with VOTED 0 and seq 2, 3 is ACCEPTED with VOTED 12 and seq 4. */
    private static LeaderlessMap acceptedTwice() {
        LeaderlessMap x = fiveAccepting();
        CHECK.pass(x, ACCEPT, 0, 1, 0);
        Check.loseAll(x);
        x.prepare(2, 0);
        x.prepare(2, 0);
        prepared(x, 2, 3, 4);
        CHECK.entry("one PREACCEPTED with VOTED 0 is too few of five", x, 2, 0, 1, 4, 1, 0, 12);
        CHECK.ask(x, PREACCEPT, 2, 3, 0);
        CHECK.ask(x, PREACCEPT, 2, 4, 0);
        CHECK.pass(x, ACCEPT, 2, 3, 0);
        CHECK.entry("1", x, 1, 0, 2, 4, 2, 1 << 6, 0);
        CHECK.entry("3", x, 3, 0, 2, 4, 4, 3 << 18 | 7 << 24, 12);
        return x;
    }

    private static void greatestVoted() {
        CHECK.sentence("(1) of the one of them with the greatest VOTED");
        for (int[] row : new int[][] {{0, 1, 3, 15}, {0, 3, 1, 15}, {1, 3, 4, 16}, {1, 4, 3, 16}, {3, 1, 4, 13}, {3, 4, 1, 13}}) {
            LeaderlessMap x = prepared(preparedHigh(row[0]), row[0], row[1], row[2]);
            String who = row[0] + " hears from " + row[1] + " and " + row[2];
            CHECK.entry(who, x, row[0], 0, 2, 4, 4, 3 << 18 | 7 << 24, row[3]);
        }
    }

    /** And replica q has prepared so often that its next ballot is above all that is promised. */
    private static LeaderlessMap preparedHigh(int q) {
        LeaderlessMap x = acceptedTwice();
        Check.loseAll(x);
        for (int step = 0; step < 3 && x.promised(q, 0) < 8; step++) {
            x.prepare(q, 0);
        }
        return x;
    }

    private static void acceptedBeforeAlike() {
        CHECK.sentence("(2) Else: not if one is ACCEPTED");
        LeaderlessMap x = new LeaderlessMap(5);
        x.propose(3, 0, true, 3);
        Check.loseAll(x);
        x.propose(0, 0, true, 9);
        for (int r = 1; r <= 3; r++) {
            CHECK.ask(x, PREACCEPT, 0, r, 0);
        }
        CHECK.pass(x, ACCEPT, 0, 4, 0);
        prepared(x, 4, 1, 2);
        CHECK.entry("1 and 2 are alike with VOTED 0, and so many as F", x, 4, 0, 2, 4, 2, 1 << 18, 4);
    }

    private static void acceptedBeforeLaterPreaccepted() {
        CHECK.sentence("(1) if one is ACCEPTED: the greatest VOTED among the ACCEPTED ones, however late others were PREACCEPTED");
        LeaderlessMap x = fiveAccepting();
        CHECK.pass(x, ACCEPT, 0, 1, 0);
        prepared(x, 4, 2, 3);
        CHECK.entry("4 preaccepts anew", x, 4, 0, 1, 4, 4, 7 << 24, 4);
        CHECK.pass(x, PREACCEPT, 4, 3, 0);
        CHECK.entry("3 is PREACCEPTED with VOTED 4", x, 3, 0, 1, 4, 4, 7 << 24 | 3 << 18, 4);
        CHECK.entry("1 is ACCEPTED with VOTED 0", x, 1, 0, 2, 4, 2, 1 << 6, 0);
        CHECK.due("2 prepares", x.prepare(2, 0), 7);
        CHECK.ask(x, PREPARE, 2, 3, 0);
        CHECK.ask(x, PREPARE, 2, 1, 0);
        CHECK.entry("as 1 has it", x, 2, 0, 2, 4, 2, 1 << 6, 7);
    }

    private static void oneOfThree() {
        CHECK.sentence("(2) if at least F of them are PREACCEPTED with VOTED 0: one of three replicas");
        for (int preparer = 1; preparer <= 2; preparer++) {
            LeaderlessMap x = new LeaderlessMap(3);
            x.propose(2, 0, true, 1);
            Check.loseAll(x);
            x.propose(0, 0, true, 9);
            CHECK.pass(x, PREACCEPT, 0, 1, 0);
            Check.loseAll(x);
            x.prepare(preparer, 0);
            CHECK.ask(x, PREPARE, preparer, 3 - preparer, 0);
            CHECK.entry("its seq and deps, not fitted", x, preparer, 0, 2, 4, 1, 0, preparer);
            CHECK.pass(x, ACCEPT, preparer, 0, 0);
            CHECK.entry("and that goes out", x, 0, 0, 2, 4, 1, 0, preparer);
        }
    }

    private static void twoOfFiveAndAnUnknown() {
        CHECK.sentence("(2) if at least F of them: just F of five, the third is UNKNOWN");
        LeaderlessMap x = new LeaderlessMap(5);
        x.propose(4, 0, true, 1);
        Check.loseAll(x);
        x.propose(0, 0, true, 9);
        CHECK.pass(x, PREACCEPT, 0, 1, 0);
        CHECK.pass(x, PREACCEPT, 0, 3, 0);
        prepared(x, 4, 3, 1);
        CHECK.entry("accepting", x, 4, 0, 2, 4, 1, 0, 4);
    }

    private static void twoOfFiveAndAnUnlike() {
        CHECK.sentence("(2) if at least F of them: just F of five, the third is PREACCEPTED too, with another seq and deps");
        for (int unlike = 1; unlike <= 3; unlike++) {
            for (int preparer = 1; preparer <= 3; preparer++) {
                LeaderlessMap x = new LeaderlessMap(5);
                x.propose(unlike, 0, true, 1);
                Check.loseAll(x);
                x.propose(0, 0, true, 9);
                for (int r = 1; r <= 3; r++) {
                    CHECK.pass(x, PREACCEPT, 0, r, 0);
                }
                prepared(x, preparer, preparer % 3 + 1, (preparer + 1) % 3 + 1);
                CHECK.entry(unlike + " is unlike, " + preparer + " prepares", x, preparer, 0, 2, 4, 1, 0, preparer);
            }
        }
    }

    private static void threeOfFive() {
        CHECK.sentence("(2) if at least F of them: F + 1 of five");
        LeaderlessMap x = new LeaderlessMap(5);
        x.propose(0, 0, true, 9);
        for (int r = 1; r <= 3; r++) {
            CHECK.pass(x, PREACCEPT, 0, r, 0);
        }
        prepared(x, 2, 1, 3);
        CHECK.entry("accepting", x, 2, 0, 2, 4, 1, 0, 2);
    }

    private static void ownAndOneOfFive() {
        CHECK.sentence("(2) of these F and of the own entry, which counts as one more");
        LeaderlessMap x = new LeaderlessMap(5);
        x.propose(0, 0, true, 9);
        CHECK.pass(x, PREACCEPT, 0, 1, 0);
        CHECK.pass(x, PREACCEPT, 0, 3, 0);
        Check.loseAll(x);
        x.propose(3, 0, true, 1);
        prepared(x, 3, 4, 1);
        CHECK.entry("accepting, not fitted", x, 3, 0, 2, 4, 1, 0, 3);
    }

    private static void tooFewOfFive() {
        CHECK.sentence("(2) if at least F of them: F - 1 of five are too few");
        for (int preparer : new int[] {1, 4}) {
            LeaderlessMap x = new LeaderlessMap(5);
            x.propose(0, 0, true, 9);
            CHECK.pass(x, PREACCEPT, 0, 1, 0);
            prepared(x, preparer, 2, preparer == 1 ? 3 : 1);
            CHECK.entry("preaccepted anew by " + preparer, x, preparer, 0, 1, 4, 1, 0, preparer);
        }
    }

    private static void withTheOwnersTooFew() {
        CHECK.sentence("(2) come from replicas that do not own the instance");
        for (int preparer : new int[] {0, 1, 4}) {
            LeaderlessMap x = new LeaderlessMap(5);
            x.propose(0, 0, true, 9);
            CHECK.pass(x, PREACCEPT, 0, 1, 0);
            prepared(x, preparer, preparer == 0 ? 2 : 0, preparer == 1 ? 3 : 1);
            CHECK.entry("the owner and one other, " + preparer + " prepares", x, preparer, 0, 1, 4, 1, 0, preparer == 0 ? 5 : preparer);
        }
        for (int preparer : new int[] {0, 2}) {
            LeaderlessMap x = new LeaderlessMap(3);
            x.propose(0, 0, true, 9);
            Check.loseAll(x);
            x.prepare(preparer, 0);
            CHECK.ask(x, PREPARE, preparer, preparer == 0 ? 1 : 0, 0);
            CHECK.entry("the owner alone of three, " + preparer + " prepares", x, preparer, 0, 1, 4, 1, 0, preparer == 0 ? 3 : preparer);
        }
        LeaderlessMap y = new LeaderlessMap(5);
        y.propose(4, 0, true, 9);
        CHECK.pass(y, PREACCEPT, 4, 0, 24);
        CHECK.pass(y, PREACCEPT, 4, 1, 24);
        Check.loseAll(y);
        y.prepare(0, 24);
        CHECK.ask(y, PREPARE, 0, 3, 24);
        CHECK.ask(y, PREPARE, 0, 1, 24);
        CHECK.entry("24 is owned by 4, so 0 and 1 are enough", y, 0, 24, 2, 4, 1, 0, 5);
    }

    private static void laterVotesTooFew() {
        CHECK.sentence("(2) PREACCEPTED with VOTED 0");
        LeaderlessMap x = new LeaderlessMap(5);
        x.propose(0, 0, true, 9);
        CHECK.pass(x, PREACCEPT, 0, 1, 0);
        prepared(x, 4, 0, 2);
        CHECK.entry("4 preaccepts anew", x, 4, 0, 1, 4, 1, 0, 4);
        CHECK.pass(x, PREACCEPT, 4, 2, 0);
        CHECK.entry("1 has VOTED 0", x, 1, 0, 1, 4, 1, 0, 0);
        CHECK.entry("2 has VOTED 4", x, 2, 0, 1, 4, 1, 0, 4);
        x.propose(3, 0, true, 1);
        x.prepare(3, 0);
        CHECK.due("above 4", x.prepare(3, 0), 8);
        prepared(x, 3, 1, 2);
        CHECK.entry("alike, but one VOTED is not 0", x, 3, 0, 1, 4, 2, 1 << 18, 13);
    }

    private static void unlikeTooFew() {
        CHECK.sentence("(2) and have the same seq and deps");
        LeaderlessMap x = new LeaderlessMap(5);
        x.propose(1, 0, true, 0);
        x.propose(2, 0, true, 0);
        Check.loseAll(x);
        x.propose(0, 0, false, 0);
        CHECK.pass(x, PREACCEPT, 0, 1, 0);
        CHECK.pass(x, PREACCEPT, 0, 2, 0);
        prepared(x, 4, 1, 2);
        CHECK.entry("the same seq alone", x, 4, 0, 1, 0, 1, 0, 4);
        LeaderlessMap y = new LeaderlessMap(5);
        y.propose(2, 0, false, 0);
        Check.loseAll(y);
        y.propose(4, 0, true, 5);
        CHECK.pass(y, PREACCEPT, 4, 1, 24);
        CHECK.pass(y, PREACCEPT, 4, 2, 24);
        Check.loseAll(y);
        y.propose(0, 0, false, 0);
        CHECK.pass(y, PREACCEPT, 0, 1, 0);
        CHECK.pass(y, PREACCEPT, 0, 2, 0);
        CHECK.due("the same deps", y.deps(1, 0), y.deps(2, 0));
        CHECK.due("one seq more", y.seq(1, 0) + 1, y.seq(2, 0));
        prepared(y, 3, 1, 2);
        CHECK.entry("the same deps alone", y, 3, 0, 1, 0, 1, 0, 3);
    }

    private static void preacceptedAnewIsFittedToOne() {
        CHECK.sentence("(3) the own entry becomes PREACCEPTED with its command fitted to seq 1 and no deps");
        LeaderlessMap x = new LeaderlessMap(3);
        x.propose(0, 0, true, 1);
        x.propose(0, 0, true, 2);
        x.propose(0, 0, true, 3);
        Check.loseAll(x);
        CHECK.entry("the owner's", x, 0, 2, 1, 4, 3, 3, 0);
        x.prepare(2, 2);
        CHECK.ask(x, PREPARE, 2, 0, 2);
        CHECK.entry("where nothing is related", x, 2, 2, 1, 4, 1, 0, 2);
        CHECK.pass(x, PREACCEPT, 2, 0, 2);
        CHECK.entry("at the owner, fitted to what was asked", x, 0, 2, 1, 4, 3, 3, 2);
        LeaderlessMap y = new LeaderlessMap(3);
        y.propose(2, 0, true, 1);
        y.propose(0, 0, true, 3);
        Check.loseAll(y);
        y.prepare(2, 0);
        CHECK.ask(y, PREPARE, 2, 0, 0);
        CHECK.entry("where one is related", y, 2, 0, 1, 4, 2, 1 << 12, 2);
    }

    private static void preacceptedAnewTakesTheCommand() {
        CHECK.sentence("(3) if one is PREACCEPTED: with its command");
        for (boolean put : new boolean[] {false, true}) {
            LeaderlessMap x = new LeaderlessMap(3);
            x.propose(0, 3, put, Integer.MIN_VALUE);
            Check.loseAll(x);
            x.crash(1);
            x.prepare(2, 0);
            Check.deliverAll(x);
            CHECK.entry("GET or PUT", x, 2, 0, 3, put ? 7 : 3, 1, 0, 2);
            CHECK.due("executed", x.execute(2), 1);
            CHECK.due("value", x.value(2, 3), put ? Integer.MIN_VALUE : 0);
        }
    }

    private static void preacceptedAnewIsAVote() {
        CHECK.sentence("(3) VOTED becomes the ballot");
        LeaderlessMap x = new LeaderlessMap(3);
        x.propose(0, 0, true, 9);
        Check.loseAll(x);
        x.prepare(2, 0);
        CHECK.ask(x, PREPARE, 2, 0, 0);
        CHECK.due("2 preaccepts anew", x.state(2, 0), 1);
        Check.loseAll(x);
        x.propose(1, 0, true, 1);
        x.prepare(1, 0);
        CHECK.due("above 2", x.prepare(1, 0), 4);
        Check.loseAll(x);
        CHECK.due("above 2", x.prepare(1, 0), 7);
        CHECK.ask(x, PREPARE, 1, 2, 0);
        CHECK.entry("2's is no vote of ballot 0: preaccepted anew, and fitted", x, 1, 0, 1, 4, 2, 1 << 6, 7);
    }

    private static void preacceptedAnewHasNoReplies() {
        CHECK.sentence("(3) the attempt is preaccepting now, with the same ballot, no replies and not fast");
        LeaderlessMap x = new LeaderlessMap(5);
        x.propose(0, 0, true, 9);
        prepared(x, 0, 3, 4);
        CHECK.entry("preaccepted anew", x, 0, 0, 1, 4, 1, 0, 5);
        CHECK.ask(x, PREACCEPT, 0, 3, 0);
        CHECK.due("the PROMISEs are not counted again", x.state(0, 0), 1);
        CHECK.ask(x, PREACCEPT, 0, 4, 0);
        CHECK.entry("F alike: accepting, since it is not fast", x, 0, 0, 2, 4, 1, 0, 5);
    }

    private static void nobodyKnows(int n) {
        CHECK.sentence("(4) Else accepting begins with NOTHING, seq 0, no deps");
        LeaderlessMap x = new LeaderlessMap(n);
        x.propose(n - 1, 1, true, 1);
        x.propose(0, 0, true, 1);
        Check.loseAll(x);
        x.prepare(n - 1, 0);
        for (int r = 1; r <= n / 2; r++) {
            CHECK.ask(x, PREPARE, n - 1, r, 0);
        }
        CHECK.entry("not fitted to what it knows", x, n - 1, 0, 2, 8, 0, 0, n - 1);
        CHECK.pass(x, ACCEPT, n - 1, 0, 0);
        CHECK.entry("the owner's command is given up", x, 0, 0, 2, 8, 0, 0, n - 1);
    }

    private static void acceptingHasNoReplies() {
        CHECK.sentence("ACCEPTING BEGINS: the attempt is accepting now, with the same ballot and no replies");
        LeaderlessMap x = new LeaderlessMap(5);
        x.prepare(1, 0);
        CHECK.ask(x, PREPARE, 1, 2, 0);
        CHECK.ask(x, PREPARE, 1, 3, 0);
        CHECK.ask(x, ACCEPT, 1, 2, 0);
        CHECK.due("the PROMISEs are not counted again", x.state(1, 0), 2);
        CHECK.ask(x, ACCEPT, 1, 4, 0);
        CHECK.due("F ACCEPTOKs", x.state(1, 0), 3);
        LeaderlessMap y = fiveAccepting();
        CHECK.ask(y, ACCEPT, 0, 1, 0);
        CHECK.due("the PREACCEPTOKs are not counted again", y.state(0, 0), 2);
        CHECK.ask(y, ACCEPT, 0, 4, 0);
        CHECK.due("F ACCEPTOKs", y.state(0, 0), 3);
    }
}
