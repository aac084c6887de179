/** Promises 30 to 36: the rule of votes, motions and what they do. */
public final class MotionsTest {
    private static final Check c = new Check("MotionsTest");

    public static void main(String[] args) {
        promise30SetVoting();
        promise31Propose();
        promise32Vote();
        promise33Quorum();
        quorumAtFirst();
        twelveMembersVote();
        promise33Effects();
        promise34Votes();
        promise35And36StateAndVotesFor();
        c.end();
    }

    private static void promise30SetVoting() {
        DairyShares x = new DairyShares();
        c.due("30 rule 3", x.setVoting(3, 100), 0);
        c.due("30 rule 1", x.setVoting(1, 0), 3);
        c.due("30 rule -1", x.setVoting(-1, 50), Check.INVALID);
        c.due("30 rule 4", x.setVoting(4, 50), Check.INVALID);
        c.due("30 quorum -1", x.setVoting(2, -1), Check.INVALID);
        c.due("30 quorum 101", x.setVoting(2, 101), Check.INVALID);
        c.due("30 recorded", x.historySize(), 2);
        c.due("30 stays", x.setVoting(2, 50), 1);
        x.undo();
        c.due("30 restored", x.setVoting(0, 50), 1);
    }

    private static void promise31Propose() {
        int[][] ranges = {{1, 1000}, {5, 100}, {1, 10}, {1, 1000}, {1, 100}};
        DairyShares x = new DairyShares();
        for (int kind = 0; kind < 5; kind++) {
            c.due("31 too small", x.propose(kind, ranges[kind][0] - 1), Check.INVALID);
            c.due("31 too great", x.propose(kind, ranges[kind][1] + 1), Check.INVALID);
            c.due("31 least", x.propose(kind, ranges[kind][0]), 2 * kind);
            c.due("31 greatest", x.propose(kind, ranges[kind][1]), 2 * kind + 1);
        }
        c.due("31 eleventh", x.propose(0, 1), Check.FULL);
        c.due("31 invalid ahead of full", x.propose(0, 0), Check.INVALID);
        c.due("31 kind -1", x.propose(-1, 5), Check.INVALID);
        c.due("31 kind 5", x.propose(5, 5), Check.INVALID);
        x.closeMotion(0);
        c.due("31 closed ones count", x.propose(0, 1), Check.FULL);
        c.due("31 nothing more recorded", x.historySize(), 4);
        c.due("31 no eleventh", x.motionState(10), Check.INVALID);
    }

    private static void promise32Vote() {
        DairyShares x = Check.register(3, 1, 1, 1);
        c.due("32 motion 0", x.vote(0, 0, 1), Check.INVALID);
        x.propose(0, 50);
        x.propose(0, 60);
        c.due("32 motion -1", x.vote(-1, 0, 1), Check.INVALID);
        c.due("32 motion 2", x.vote(2, 0, 1), Check.INVALID);
        c.due("32 member -1", x.vote(0, -1, 1), Check.INVALID);
        c.due("32 member 3", x.vote(0, 3, 1), Check.INVALID);
        c.due("32 yes -1", x.vote(0, 0, -1), Check.INVALID);
        c.due("32 yes 2", x.vote(0, 0, 2), Check.INVALID);
        c.due("32 first", x.vote(0, 2, 1), 1);
        c.due("32 second", x.vote(0, 0, 0), 2);
        c.due("32 a later one in its place", x.vote(0, 0, 1), 2);
        c.due("32 for", x.votesFor(0), 2);
        c.due("32 back again", x.vote(0, 0, 0), 2);
        c.due("32 for", x.votesFor(0), 1);
        c.due("32 of another motion", x.vote(1, 1, 1), 1);
        x.closeMotion(0);
        c.due("32 closed", x.vote(0, 1, 1), Check.ILLEGAL);
        c.due("32 invalid ahead of illegal", x.vote(0, 1, 2), Check.INVALID);
        c.due("32 invalid ahead of illegal", x.vote(0, 3, 1), Check.INVALID);
        c.due("32 a member without votes counts", Check.register(1).propose(0, 1), 0);
        DairyShares y = Check.register(2, 1);
        y.propose(0, 1);
        c.due("32 a member without shares", y.vote(0, 1, 1), 1);
    }

    private static void promise33Quorum() {
        DairyShares none = Check.register(1);
        c.due("33 motion 0", none.closeMotion(0), Check.INVALID);
        c.due("33 motion -1", none.closeMotion(-1), Check.INVALID);
        none.setVoting(0, 0);
        c.due("33 no votes at all", Check.pass(none, 0, 1, 1), 0);
        c.due("33 twice", none.closeMotion(0), Check.ILLEGAL);
        quorumOf(4, 50, 2, 0, 1);
        quorumOf(4, 50, 1, 0, 0);
        quorumOf(4, 51, 2, 0, 0);
        quorumOf(3, 66, 2, 0, 1);
        quorumOf(3, 67, 2, 0, 0);
        quorumOf(4, 0, 1, 0, 1);
        quorumOf(4, 0, 0, 0, 0);
        quorumOf(4, 100, 4, 0, 1);
        quorumOf(4, 100, 3, 0, 0);
        quorumOf(4, 100, 3, 1, 1);
        quorumOf(4, 100, 2, 2, 0);
        quorumOf(5, 50, 2, 1, 1);
        quorumOf(5, 50, 1, 2, 0);
    }

    /** Members with one share each: so many vote for the motion, so many others against it. */
    private static void quorumOf(int members, int quorum, int yes, int no, int due) {
        DairyShares x = new DairyShares();
        for (int m = 0; m < members; m++) {
            x.join();
            x.issue(m, 1);
        }
        x.setVoting(0, quorum);
        x.propose(0, 500);
        for (int m = 0; m < yes + no; m++) {
            x.vote(0, m, m < yes ? 1 : 0);
        }
        String run = members + " members, " + quorum + ", " + yes + " against " + no;
        c.due("33 " + run, x.closeMotion(0), due);
        c.due("35 " + run, x.motionState(0), due == 1 ? 1 : 2);
        c.due("33 done or not, " + run, x.parValue(), due == 1 ? 500 : 100);
    }

    private static void quorumAtFirst() {
        c.due("33 half of four", Check.pass(Check.register(4, 1, 1, 1, 1), 0, 5, 2), 1);
        c.due("33 a third", Check.pass(Check.register(3, 1, 1, 1), 0, 5, 1), 0);
        c.due("33 5 of 11", Check.pass(Check.register(11, 1, 1, 1, 1, 1, 1, 1, 1, 1, 1, 1), 0, 5, 5), 0);
        c.due("33 without shares none counts", Check.pass(Check.register(11, 1, 1), 0, 5, 1), 1);
    }

    private static void twelveMembersVote() {
        DairyShares x = Check.register(12, 10, 1, 1, 1, 1, 1, 1, 1, 1, 1, 1, 12);
        x.setVoting(1, 100);
        x.propose(4, 100);
        for (int m = 0; m < 12; m++) {
            c.due("32 voters", x.vote(0, m, m == 0 || m == 11 ? 1 : 0), m + 1);
        }
        c.due("36 the first and the last", x.votesFor(0), 22);
        c.due("33 all voted", x.closeMotion(0), 1);
        c.due("33 the first gets it", x.account(0), 0);
        c.due("33 the last gets it", x.account(11), 0);
        c.due("13 the last counts", x.allShares(), 32);
    }

    private static void promise33Effects() {
        DairyShares x = Check.register(3, 100, 33);
        x.offer(0, 2, 60, 100);
        x.passDays(9);
        c.due("33 treasury", x.treasury(), 50);
        long before0 = x.account(0);
        long before1 = x.account(1);
        c.due("33 par passes", Check.pass(x, 0, 101, 2), 1);
        c.due("33 par", x.parValue(), 101);
        c.due("33 dividend passes", Check.pass(x, 4, 7, 2), 1);
        // 50 - 10 = 40 shares to the buyer's 10: 40 * 101 * 7 / 100 = 282.8; 33 * 101 * 7 / 100 = 233.31
        c.due("33 shares(0)", x.shares(0), 40);
        c.due("33 one quotient", x.account(0) - before0, 282);
        c.due("33 one quotient", x.account(1) - before1, 233);
        c.due("33 cap passes", Check.pass(x, 1, 50, 2), 1);
        c.due("33 room", x.room(1), 133 * 50 / 100 - 33);
        c.due("33 retire passes", Check.pass(x, 3, 49, 2), 1);
        c.due("33 treasury", x.treasury(), 1);
        c.due("33 fewer than the value", Check.pass(x, 3, 1000, 2), 1);
        c.due("33 none left", x.treasury(), 0);
        c.due("33 all shares", x.allShares(), 83);
        c.due("33 none to retire", Check.pass(x, 3, 1, 2), 1);
        c.due("33 the same", x.allShares(), 83);
        c.due("33 a failed one", Check.pass(x, 2, 9, 0), 0);
        x.offer(0, 1, 1, 200);
        c.due("33 does nothing", x.daysLeft(1), 3);
        c.due("33 length passes", Check.pass(x, 2, 9, 2), 1);
        x.offer(0, 1, 1, 200);
        c.due("33 length", x.daysLeft(2), 9);
        c.due("33 undo", x.undo(), 3);
        c.due("33 undo", x.undo(), 2);
        c.due("33 open again", x.motionState(7), 0);
        greatestDividend();
    }

    private static void greatestDividend() {
        DairyShares x = Check.register(1, 10000);
        Check.pass(x, 0, 1000, 1);
        c.due("33 greatest dividend", Check.pass(x, 4, 100, 1), 1);
        c.due("33 10000 * 1000 * 100 / 100", x.account(0), -1000000 + 10000000);
    }

    private static void promise34Votes() {
        DairyShares x = Check.register(4, 99, 100, 1);
        x.setMilk(0, 999);
        x.setMilk(1, 1000);
        x.setMilk(2, 1000000);
        x.setMilk(3, 50000);
        int[][] due = {{1, 1, 1, 0}, {99, 100, 1, 0}, {1, 2, 1001, 0}, {9, 10, 1, 0}};
        c.due("34 the rule at first", x.votes(0), 1);
        for (int rule = 0; rule < 4; rule++) {
            x.setVoting(rule, 50);
            for (int m = 0; m < 4; m++) {
                c.due("34 rule " + rule + " member " + m, x.votes(m), due[rule][m]);
            }
        }
        c.due("34 votes(-1)", x.votes(-1), Check.INVALID);
        c.due("34 votes(4)", x.votes(4), Check.INVALID);
        DairyShares full = Check.register(1, 9999);
        full.setVoting(3, 0);
        c.due("34 root of 9999", full.votes(0), 99);
        full.issue(0, 1);
        c.due("34 root of 10000", full.votes(0), 100);
        for (int shares = 2; shares <= 30; shares++) {
            DairyShares y = Check.register(1, shares);
            y.setVoting(3, 0);
            c.due("34 root of " + shares, y.votes(0), (long) Math.sqrt(shares));
        }
    }

    private static void promise35And36StateAndVotesFor() {
        DairyShares x = Check.register(3, 10, 20, 30);
        x.setVoting(1, 50);
        c.due("35 none", x.motionState(0), Check.INVALID);
        c.due("36 none", x.votesFor(0), Check.INVALID);
        x.propose(0, 200);
        c.due("35 open", x.motionState(0), 0);
        c.due("36 nobody", x.votesFor(0), 0);
        x.vote(0, 0, 1);
        x.vote(0, 1, 1);
        x.vote(0, 2, 0);
        c.due("36 by shares", x.votesFor(0), 30);
        x.setVoting(0, 50);
        c.due("36 as they are now", x.votesFor(0), 2);
        x.setVoting(1, 50);
        c.due("33 30 of 60 are not more than half", x.closeMotion(0), 0);
        c.due("35 did not pass", x.motionState(0), 2);
        x.issue(1, 5);
        c.due("36 of a closed motion, as they are now", x.votesFor(0), 35);
        x.propose(0, 200);
        x.vote(1, 0, 1);
        x.vote(1, 1, 1);
        x.vote(1, 2, 0);
        x.issue(2, 4);
        c.due("33 35 of 69, as they are when it is closed", x.closeMotion(1), 1);
        c.due("35 passed", x.motionState(1), 1);
        c.due("35 of each its own", x.motionState(0), 2);
        for (int motion = -1; motion <= 2; motion += 3) {
            c.due("35 no such motion", x.motionState(motion), Check.INVALID);
            c.due("36 no such motion", x.votesFor(motion), Check.INVALID);
        }
    }
}
