import java.util.Arrays;

/** The edges of "Motions" and of the promises 30 to 36, sentence by sentence. */
final class MotionsEdges {
    private static final String TERMS = "Motions";
    private static final int[][] RANGES = {{1, 1000}, {5, 100}, {1, 10}, {1, 1000}, {1, 100}};

    private MotionsEdges() {
    }

    static void run(Edges e) {
        atMostTenMotions(e);
        parCapAndStageLength(e);
        sharesAreRetired(e);
        sharesGetTheirPart(e);
        membersVote(e);
        votesByRule(e);
        votesByRoot(e);
        votesWhenItIsClosed(e);
        quorum(e);
        moreThanHalf(e);
        doneOnlyIfItPasses(e);
        promise30(e);
        promise31(e);
        promise32(e);
        promise33(e);
        promise34(e);
        promise35(e);
        promise36(e);
        e.allIsQuoted(TERMS);
        for (int promise = 30; promise <= 36; promise++) {
            e.allIsQuoted("Promise " + promise);
        }
    }

    /** Three members with 10, 20 and 30 shares, and so many open motions. */
    private static Twins.Make motions(int number) {
        return () -> {
            DairyShares x = Check.register(3, 10, 20, 30);
            for (int i = 0; i < number; i++) {
                x.propose(0, 500 + i);
            }
            return x;
        };
    }

    private static Twins.Make closed(int number) {
        return () -> {
            DairyShares x = motions(number).it();
            for (int i = 0; i < number; i++) {
                x.closeMotion(i);
            }
            return x;
        };
    }

    /** A motion's number one step outside, where there is no motion, one, and ten. */
    private static void noSuchMotion(Edges e, String call, Edges.CallWith f) {
        for (int number : new int[] {0, 1, 10}) {
            e.outside(motions(number), call + ", motion", f, 0, number - 1);
        }
    }

    private static void atMostTenMotions(Edges e) {
        e.sentence(TERMS, "There are at most 10 motions, numbered from 0, of the following kinds with a value:");
        DairyShares x = Check.register(1, 1);
        for (int i = 0; i < 10; i++) {
            e.due("no motion " + i + " yet", x.motionState(i), Edges.INVALID);
            e.due("propose", x.propose(i % 5, 10), i);
            e.due("open", x.motionState(i), 0);
        }
        e.does(motions(8), "the ninth", z -> z.propose(0, 1), 8);
        e.does(motions(9), "the tenth", z -> z.propose(0, 1), 9);
        e.keeps(motions(10), "the eleventh", z -> z.propose(0, 1), Edges.FULL);
        e.does(closed(9), "the tenth after closed ones", z -> z.propose(0, 1), 9);
        e.keeps(closed(10), "the eleventh after closed ones", z -> z.propose(0, 1), Edges.FULL);
        e.due("no eleventh", motions(10).it().motionState(10), Edges.INVALID);
    }

    private static void kindOfValue(Edges e, int kind) {
        int least = RANGES[kind][0];
        int greatest = RANGES[kind][1];
        e.within(motions(1), "propose(" + kind + ")", (x, n) -> x.propose(kind, n), least, greatest, n -> 1);
        e.outside(motions(1), "propose(" + kind + ")", (x, n) -> x.propose(kind, n), least, greatest);
    }

    private static void parCapAndStageLength(Edges e) {
        e.sentence(TERMS, "0 the par value becomes the value (1 to 1000);");
        kindOfValue(e, 0);
        for (int par : new int[] {1, 2, 100, 999, 1000}) {
            DairyShares x = Check.register(2, 4);
            e.due("passes", Check.pass(x, 0, par, 1), 1);
            e.due("par " + par, x.parValue(), par);
            e.due("offered for less", x.offer(0, 1, 1, par - 1), par == 1 ? Edges.INVALID : Edges.ILLEGAL);
            e.due("offered for it", x.offer(0, 1, 1, par), 0);
        }
        e.sentence(TERMS, "1 the cap becomes the value (5 to 100);");
        kindOfValue(e, 1);
        for (int cap : new int[] {5, 6, 25, 99, 100}) {
            DairyShares x = Check.register(2, 1000);
            e.due("passes", Check.pass(x, 1, cap, 1), 1);
            e.due("cap " + cap, x.room(1), 10 * cap);
        }
        e.sentence(TERMS, "2 the stage length becomes the value (1 to 10);");
        kindOfValue(e, 2);
        for (int length : new int[] {1, 2, 3, 9, 10}) {
            DairyShares x = Check.register(2, 4);
            e.due("passes", Check.pass(x, 2, length, 1), 1);
            x.offer(0, 1, 1, 100);
            e.due("length " + length, x.daysLeft(0), length);
            e.due("a day less than three stages", x.passDays(3 * length - 1), 0);
            e.due("three stages", x.passDays(1), 1);
        }
    }

    private static void sharesAreRetired(Edges e) {
        e.sentence(TERMS, "3 as many treasury shares as the value tells (1 to 1000), or all if there are fewer,"
            + " are retired: they are no shares any more;");
        kindOfValue(e, 3);
        for (int value : new int[] {1, 2, 49, 50, 51, 1000}) {
            DairyShares x = OffersEdges.inStage(3, 50);
            long account = x.account(0);
            e.due("passes", Check.pass(x, 3, value, 1), 1);
            int retired = Math.min(value, 50);
            e.due("treasury after " + value, x.treasury(), 50 - retired);
            e.due("all shares after " + value, x.allShares(), 1000 - retired);
            e.due("the member's", x.shares(0), 950);
            e.due("nobody is paid", x.account(0), account);
            e.due("limit", x.room(1), (1000 - retired) / 4);
        }
        DairyShares none = Check.register(2, 5);
        e.due("without any, it passes", Check.pass(none, 3, 1, 1), 1);
        e.due("treasury", none.treasury(), 0);
        e.due("all shares", none.allShares(), 5);
        for (int value : new int[] {999, 1000}) {
            DairyShares x = Check.register(2, 2000);
            x.setTreasuryLimit(1000);
            x.offer(0, 1, 1000, 100);
            x.passDays(9);
            Check.pass(x, 3, value, 1);
            e.due(value + " of 1000", x.treasury(), 1000 - value);
        }
    }

    private static void sharesGetTheirPart(Edges e) {
        e.sentence(TERMS, "4 each member gets the product of its shares, the par value and the value (1 to 100),"
            + " divided by 100 (one quotient), on its account.");
        kindOfValue(e, 4);
        int[][] rows = {{1, 1, 1, 0}, {1, 1, 99, 0}, {1, 1, 100, 1}, {2, 1, 99, 1}, {2, 1, 100, 2}, {3, 33, 50, 49},
            {33, 101, 7, 233}, {1, 100, 1, 1}, {1, 99, 1, 0}, {1, 1000, 100, 1000}, {100, 1, 1, 1}, {99, 1, 1, 0},
            {10000, 1000, 100, 10000000}, {10000, 999, 99, 9890100}};
        for (int[] row : rows) {
            DairyShares x = Check.register(2, row[0]);
            Check.pass(x, 0, row[1], 1);
            long before = x.account(0);
            e.due("passes", Check.pass(x, 4, row[2], 1), 1);
            String run = row[0] + " shares, par " + row[1] + ", value " + row[2];
            e.due(run, x.account(0) - before, row[3]);
            e.due("without shares", x.account(1), 0);
        }
        DairyShares all = Check.register(12);
        for (int m = 0; m < 12; m++) {
            all.issue(m, m + 1);
        }
        Check.pass(all, 4, 50, 12);
        for (int m = 0; m < 12; m++) {
            e.due("member " + m, all.account(m), -50 * (m + 1));
        }
        DairyShares open = OffersEdges.inStage(3, 50);
        open.offer(0, 1, 100, 100);
        open.setBooks(1000000, 0);
        e.due("another price", open.valuate(), 600);
        long before = open.account(0);
        Check.pass(open, 4, 100, 1);
        e.due("950 with the offered ones, by the par value", open.account(0) - before, 95000);
    }

    private static void membersVote(Edges e) {
        e.sentence(TERMS, "Members vote for or against an open motion;");
        e.does(motions(1), "for", x -> x.vote(0, 0, 1), 1);
        e.does(motions(1), "against", x -> x.vote(0, 0, 0), 1);
        e.keeps(closed(1), "on a closed one", x -> x.vote(0, 0, 1), Edges.ILLEGAL);
        e.keeps(closed(1), "against a closed one", x -> x.vote(0, 0, 0), Edges.ILLEGAL);
        int[][] rows = {{1, 1}, {0, 0}};
        for (int[] row : rows) {
            DairyShares x = motions(1).it();
            for (int m = 0; m < 3; m++) {
                x.vote(0, m, row[0]);
            }
            e.due("all say " + row[0], x.closeMotion(0), row[1]);
        }
        e.sentence(TERMS, "a later vote of a member takes the place of an earlier one.");
        int[][] turns = {{1, 1, 1, 1}, {1, 0, 1, 0}, {0, 1, 1, 1}, {0, 0, 1, 0}};
        for (int[] turn : turns) {
            DairyShares x = motions(1).it();
            x.vote(0, 1, 1);
            e.due("first", x.vote(0, 2, turn[0]), 2);
            e.due("later", x.vote(0, 2, turn[1]), 2);
            e.due("votes for", x.votesFor(0), turn[1] == 1 ? 2 : 1);
            e.due("passes", x.closeMotion(0), turn[3]);
        }
    }

    private static DairyShares ruled(int rule, int shares, int milk) {
        DairyShares x = Check.register(2, shares);
        x.setMilk(0, milk);
        x.setVoting(rule, 50);
        return x;
    }

    private static void votesByRule(Edges e) {
        e.sentence(TERMS, "The votes of a member depend on the rule: 0 one (1 if it has a share, otherwise 0;"
            + " the rule at first),");
        int[][] one = {{0, 0}, {1, 1}, {2, 1}, {10000, 1}};
        for (int[] row : one) {
            e.due("at first, of " + row[0], Check.register(2, row[0]).votes(0), row[1]);
            e.due("of " + row[0], ruled(0, row[0], 1000000).votes(0), row[1]);
        }
        e.due("the rule at first", new DairyShares().setVoting(2, 50), 0);
        e.sentence(TERMS, "1 shares (their number),");
        int[][] shares = {{0, 0}, {1, 1}, {2, 2}, {9999, 9999}, {10000, 10000}};
        for (int[] row : shares) {
            e.due("of " + row[0], ruled(1, row[0], 1000000).votes(0), row[1]);
        }
        e.sentence(TERMS, "2 milk (the milk divided by 1000, plus 1, if it has a share, otherwise 0),");
        int[][] milk = {{1, 0, 1}, {1, 1, 1}, {1, 999, 1}, {1, 1000, 2}, {1, 1001, 2}, {1, 1999, 2}, {1, 2000, 3},
            {1, 999999, 1000}, {1, 1000000, 1001}, {0, 0, 0}, {0, 999, 0}, {0, 1000, 0}, {0, 1000000, 0},
            {2, 1000, 2}, {10000, 0, 1}, {10000, 1000000, 1001}};
        for (int[] row : milk) {
            e.due(row[0] + " shares, milk " + row[1], ruled(2, row[0], row[1]).votes(0), row[2]);
        }
        DairyShares liters = ruled(2, 1, 5000);
        liters.setLitersPerShare(100);
        e.due("1000, not the liters per share", liters.votes(0), 6);
    }

    private static void votesByRoot(Edges e) {
        e.sentence(TERMS, "3 root (the greatest number whose square is at most its shares).");
        e.due("of 0", ruled(3, 0, 1000000).votes(0), 0);
        for (int root = 1; root <= 100; root++) {
            int square = root * root;
            e.due("of " + (square - 1), ruled(3, square - 1, 0).votes(0), root - 1);
            e.due("of " + square, ruled(3, square, 0).votes(0), root);
            if (square < 10000) {
                e.due("of " + (square + 1), ruled(3, square + 1, 0).votes(0), root);
            }
        }
    }

    private static void votesWhenItIsClosed(Edges e) {
        e.sentence(TERMS, "Votes count as they are when the motion is closed.");
        int[][] rows = {{0, 0, 0}, {1, 0, 1}, {0, 1, 0}, {1, 1, 0}, {2, 1, 1}};
        for (int[] row : rows) {
            DairyShares x = Check.register(2, 10, 10);
            x.setVoting(1, 100);
            x.propose(0, 7);
            x.vote(0, 0, 1);
            x.vote(0, 1, 0);
            for (int m = 0; m < 2; m++) {
                if (row[m] > 0) {
                    x.issue(m, row[m]);
                }
            }
            e.due("10 and " + row[0] + " for, 10 and " + row[1] + " against", x.closeMotion(0), row[2]);
        }
        DairyShares rule = Check.register(3, 30, 10, 10);
        rule.propose(0, 7);
        rule.propose(0, 8);
        for (int i = 0; i < 2; i++) {
            rule.vote(i, 0, 1);
            rule.vote(i, 1, 0);
            rule.vote(i, 2, 0);
        }
        e.due("one of three, by the rule 0", rule.closeMotion(0), 0);
        rule.setVoting(1, 50);
        e.due("30 of 50, by the rule 1", rule.closeMotion(1), 1);
        DairyShares gone = Check.register(2, 1, 99);
        gone.propose(0, 7);
        gone.vote(0, 0, 1);
        gone.setVoting(0, 0);
        gone.offer(0, 1, 1, 100);
        gone.passDays(9);
        e.due("its share is sold", gone.shares(0), 0);
        e.due("its vote is 0", gone.closeMotion(0), 0);
        DairyShares late = Check.register(2, 0, 10);
        late.setVoting(0, 0);
        late.propose(0, 7);
        late.vote(0, 0, 1);
        late.issue(0, 1);
        e.due("a share that came after the vote", late.closeMotion(0), 1);
        DairyShares joined = Check.register(1, 1);
        joined.propose(0, 7);
        joined.vote(0, 0, 1);
        joined.join();
        joined.join();
        joined.issue(1, 1);
        joined.issue(2, 1);
        e.due("one of three, as two joined later", joined.closeMotion(0), 0);
    }

    /** Member 1 of two votes for a motion with so many of so many votes by shares. */
    private static int closeWith(int votes, int all, int quorum) {
        DairyShares x = Check.register(2, all - votes, votes);
        x.setVoting(1, quorum);
        x.propose(0, 7);
        x.vote(0, 1, 1);
        return x.closeMotion(0);
    }

    private static void quorum(Edges e) {
        e.sentence(TERMS, "Let c be the votes of all members who voted, y the votes of those who voted for it,"
            + " and a the votes of all members. The motion passes if c * 100 is at least a times the quorum"
            + " (0 to 100; 50 at first),");
        for (int quorum : new int[] {1, 2, 49, 50, 51, 99, 100}) {
            for (int votes = Math.max(quorum - 1, 1); votes <= Math.min(quorum + 1, 100); votes++) {
                e.due(votes + " of 100, quorum " + quorum, closeWith(votes, 100, quorum), votes >= quorum ? 1 : 0);
            }
        }
        int[][] rows = {{50, 101, 50, 0}, {51, 101, 50, 1}, {1, 3, 33, 1}, {1, 3, 34, 0}, {2, 3, 66, 1}, {2, 3, 67, 0},
            {1, 10000, 0, 1}, {1, 10000, 1, 0}, {99, 10000, 1, 0}, {100, 10000, 1, 1}, {9999, 10000, 100, 0},
            {10000, 10000, 100, 1}, {4999, 10000, 50, 0}, {5000, 10000, 50, 1}, {1, 1, 100, 1}};
        for (int[] row : rows) {
            String run = row[0] + " of " + row[1] + ", quorum " + row[2];
            e.due(run, closeWith(row[0], row[1], row[2]), row[3]);
        }
        int[][] atFirst = {{1, 1, 1}, {2, 1, 1}, {3, 1, 0}, {4, 1, 0}, {4, 2, 1}, {9, 4, 0}, {9, 5, 1}, {11, 5, 0},
            {11, 6, 1}, {12, 5, 0}, {12, 6, 1}};
        for (int[] row : atFirst) {
            int[] shares = new int[row[0]];
            Arrays.fill(shares, 1);
            DairyShares x = Check.register(row[0], shares);
            e.due("at first, " + row[1] + " of " + row[0], Check.pass(x, 0, 7, row[1]), row[2]);
        }
        votesAgainstCountForTheQuorum(e);
        DairyShares treasury = OffersEdges.inStage(3, 50);
        treasury.setVoting(1, 100);
        e.due("the treasury has no votes", Check.pass(treasury, 0, 7, 1), 1);
        DairyShares most = Check.register(12, 1, 1, 1, 1, 1, 1, 1, 1, 1, 1, 1, 1);
        for (int m = 0; m < 12; m++) {
            most.setMilk(m, 1000000);
        }
        most.setVoting(2, 100);
        e.due("11011 of 12012 votes", Check.pass(most, 0, 7, 11), 0);
        e.due("12012 of 12012 votes", Check.pass(most, 0, 7, 12), 1);
    }

    private static void votesAgainstCountForTheQuorum(Edges e) {
        int[][] rows = {{54, 1}, {55, 1}, {56, 0}};
        for (int[] row : rows) {
            DairyShares x = Check.register(3, 30, 25, 45);
            x.setVoting(1, row[0]);
            x.propose(0, 7);
            x.vote(0, 0, 1);
            x.vote(0, 1, 0);
            e.due("30 against 25 of 100, quorum " + row[0], x.closeMotion(0), row[1]);
        }
    }

    private static void moreThanHalf(Edges e) {
        e.sentence(TERMS, "and 2 * y is greater than c.");
        int[][] rows = {{10, 10, 0}, {11, 10, 1}, {10, 11, 0}, {1, 0, 1}, {0, 1, 0}, {1, 1, 0}, {2, 1, 1}, {1, 2, 0},
            {5000, 5000, 0}, {5000, 4999, 1}, {4999, 5000, 0}, {5001, 4999, 1}, {10000, 0, 1}, {0, 10000, 0}, {0, 0, 0}};
        for (int quorum = 0; quorum <= 100; quorum += 100) {
            for (int[] row : rows) {
                DairyShares x = Check.register(2, row[0], row[1]);
                x.setVoting(1, quorum);
                x.propose(0, 7);
                x.vote(0, 0, 1);
                x.vote(0, 1, 0);
                e.due(row[0] + " for, " + row[1] + " against", x.closeMotion(0), row[2]);
            }
        }
        DairyShares nobody = Check.register(2, 10, 10);
        nobody.setVoting(0, 0);
        e.due("a quorum of 0 and nobody voted", Check.pass(nobody, 0, 7, 0), 0);
        DairyShares without = Check.register(2, 0, 10);
        without.setVoting(0, 0);
        e.due("a quorum of 0 and one without a share", Check.pass(without, 0, 7, 1), 0);
        DairyShares empty = new DairyShares();
        empty.setVoting(0, 0);
        e.due("a quorum of 0 and no member", Check.pass(empty, 0, 7, 0), 0);
    }

    private static void doneOnlyIfItPasses(Edges e) {
        e.sentence(TERMS, "If it passes, what it tells is done.");
        int[] values = {7, 50, 9, 30, 40};
        for (int kind = 0; kind < 5; kind++) {
            for (int yes = 0; yes <= 1; yes++) {
                DairyShares x = OffersEdges.inStage(3, 50);
                long account = x.account(0);
                x.propose(kind, values[kind]);
                x.vote(0, 0, yes);
                e.due("nothing before it is closed, " + kind, x.parValue() + x.treasury(), 150);
                e.due("kind " + kind, x.closeMotion(0), yes);
                e.due("state", x.motionState(0), yes == 1 ? 1 : 2);
                boolean done = yes == 1;
                int par = done && kind == 0 ? 7 : 100;
                int all = done && kind == 3 ? 970 : 1000;
                e.due("par", x.parValue(), par);
                e.due("room", x.room(1), done && kind == 1 ? 500 : all / 4);
                e.due("treasury", x.treasury(), all - 950);
                e.due("account", x.account(0) - account, done && kind == 4 ? 38000 : 0);
                x.offer(0, 1, 1, 100);
                e.due("length", x.daysLeft(1), done && kind == 2 ? 9 : 3);
            }
        }
    }

    private static void promise30(Edges e) {
        e.sentence("Promise 30", "`int setVoting(int rule, int quorum)`: Sets the rule and the quorum of votes.");
        DairyShares x = Check.register(2, 25, 75);
        int[] votes = {1, 25, 8, 5};
        x.setMilk(0, 7000);
        for (int rule = 0; rule <= 3; rule++) {
            x.setVoting(rule, 50);
            e.due("rule " + rule, x.votes(0), votes[rule]);
        }
        x.setVoting(1, 26);
        e.due("quorum 26", Check.pass(x, 0, 7, 1), 0);
        x.setVoting(1, 25);
        e.due("quorum 25", Check.pass(x, 0, 7, 1), 1);
        e.sentence("Promise 30", "This is an action.");
        e.does(motions(1), "setVoting(1, 70)", z -> z.setVoting(1, 70), 0);
        e.does(motions(1), "setVoting(0, 50) again", z -> z.setVoting(0, 50), 0);
        e.does(Twins::rich, "setVoting(1, 41)", z -> z.setVoting(1, 41), 1);
        e.sentence("Promise 30", "- `rule`: 0 to 3");
        e.within(motions(1), "rule", (z, n) -> z.setVoting(n, 50), 0, 3, n -> 0);
        e.outside(motions(1), "rule", (z, n) -> z.setVoting(n, 50), 0, 3);
        e.sentence("Promise 30", "- `quorum`: 0 to 100");
        e.within(motions(1), "quorum", (z, n) -> z.setVoting(2, n), 0, 100, n -> 0);
        e.outside(motions(1), "quorum", (z, n) -> z.setVoting(2, n), 0, 100);
        e.sentence("Promise 30", "Returns the previous rule;");
        DairyShares y = new DairyShares();
        int before = 0;
        for (int rule : new int[] {0, 1, 2, 3, 3, 0}) {
            e.due("before " + rule, y.setVoting(rule, rule), before);
            before = rule;
        }
        e.sentence("Promise 30", "INVALID_ARGUMENT if an argument is out of range.");
        int[][] wrong = {{-1, 50}, {4, 50}, {2, -1}, {2, 101}, {4, 101}, {-1, -1}};
        for (int[] a : wrong) {
            String call = "setVoting(" + a[0] + ", " + a[1] + ")";
            e.keeps(Twins::rich, call, z -> z.setVoting(a[0], a[1]), Edges.INVALID);
        }
    }

    private static void promise31(Edges e) {
        e.sentence("Promise 31", "`int propose(int kind, int value)`: Proposes a motion.");
        DairyShares x = motions(0).it();
        x.propose(0, 77);
        e.due("open", x.motionState(0), 0);
        e.due("nobody voted", x.votesFor(0), 0);
        e.due("nothing is done", x.parValue(), 100);
        e.sentence("Promise 31", "This is an action.");
        e.does(motions(0), "propose(0, 1)", z -> z.propose(0, 1), 0);
        e.does(Twins::rich, "propose(4, 1)", z -> z.propose(4, 1), 6);
        e.does(DairyShares::new, "without members", z -> z.propose(1, 5), 0);
        e.sentence("Promise 31", "- `kind`: 0 to 4");
        e.within(motions(1), "kind", (z, n) -> z.propose(n, 7), 0, 4, n -> 1);
        e.outside(motions(1), "kind", (z, n) -> z.propose(n, 7), 0, 4);
        e.sentence("Promise 31", "- `value`: a value of this kind");
        for (int kind = 0; kind < 5; kind++) {
            kindOfValue(e, kind);
        }
        e.sentence("Promise 31", "Returns the number of the motion;");
        for (int number : new int[] {0, 1, 8, 9}) {
            e.does(motions(number), "after " + number, z -> z.propose(2, 7), number);
        }
        e.sentence("Promise 31", "INVALID_ARGUMENT if an argument is out of range;");
        int[][] wrong = {{-1, 7}, {5, 7}, {0, 0}, {0, 1001}, {1, 4}, {1, 101}, {2, 0}, {2, 11}, {3, 0}, {3, 1001},
            {4, 0}, {4, 101}, {5, 0}};
        for (int[] a : wrong) {
            String call = "propose(" + a[0] + ", " + a[1] + ")";
            e.keeps(Twins::rich, call, z -> z.propose(a[0], a[1]), Edges.INVALID);
        }
        e.sentence("Promise 31", "CAPACITY_EXCEEDED if there are 10 motions.");
        e.does(motions(9), "with 9", z -> z.propose(0, 1), 9);
        e.keeps(motions(10), "with 10", z -> z.propose(0, 1), Edges.FULL);
        e.keeps(closed(10), "with 10 closed ones", z -> z.propose(4, 100), Edges.FULL);
        DairyShares y = motions(10).it();
        y.undo();
        e.due("after an undo", y.propose(0, 1), 9);
    }

    /** Ten motions and twelve members with one share each. */
    private static DairyShares parliament() {
        DairyShares x = Check.register(12, 1, 1, 1, 1, 1, 1, 1, 1, 1, 1, 1, 1);
        for (int i = 0; i < 10; i++) {
            x.propose(0, 10 + i);
        }
        return x;
    }

    private static void promise32(Edges e) {
        e.sentence("Promise 32", "`int vote(int motion, int member, int yes)`: Lets a member vote on a motion.");
        DairyShares x = parliament();
        x.vote(9, 11, 1);
        e.due("on this motion", x.votesFor(9), 1);
        e.due("on no other", x.votesFor(8), 0);
        e.sentence("Promise 32", "This is an action.");
        e.does(motions(1), "vote(0, 1, 1)", z -> z.vote(0, 1, 1), 1);
        e.does(Twins::rich, "vote(4, 0, 1) again", z -> z.vote(4, 0, 1), 2);
        e.sentence("Promise 32", "- `motion`: a motion");
        e.does(MotionsEdges::parliament, "the first", z -> z.vote(0, 5, 1), 1);
        e.does(MotionsEdges::parliament, "the last", z -> z.vote(9, 5, 1), 1);
        noSuchMotion(e, "vote", (z, i) -> z.vote(i, 0, 1));
        e.sentence("Promise 32", "- `member`: a member");
        e.does(MotionsEdges::parliament, "the first", z -> z.vote(5, 0, 0), 1);
        e.does(MotionsEdges::parliament, "the last", z -> z.vote(5, 11, 0), 1);
        e.outside(MotionsEdges::parliament, "member", (z, m) -> z.vote(5, m, 1), 0, 11);
        e.outside(motions(1), "member of three", (z, m) -> z.vote(0, m, 1), 0, 2);
        e.sentence("Promise 32", "- `yes`: 1 for the motion, 0 against it");
        e.does(motions(1), "1", z -> z.vote(0, 0, 1), 1);
        e.does(motions(1), "0", z -> z.vote(0, 0, 0), 1);
        e.outside(motions(1), "yes", (z, n) -> z.vote(0, 0, n), 0, 1);
        DairyShares both = motions(1).it();
        both.vote(0, 0, 0);
        e.due("against it", both.votesFor(0), 0);
        both.vote(0, 0, 1);
        e.due("for it", both.votesFor(0), 1);
        e.sentence("Promise 32", "Returns the number of members who have voted on it then;");
        DairyShares y = parliament();
        for (int m = 0; m < 12; m++) {
            e.due("member " + m, y.vote(3, m, m % 2), m + 1);
            e.due("the same again", y.vote(3, m, 1), m + 1);
        }
        DairyShares poor = Check.register(2);
        poor.propose(0, 1);
        e.due("one without a share", poor.vote(0, 1, 1), 1);
        e.sentence("Promise 32", "INVALID_ARGUMENT if there is no such motion or member or yes is out of range;");
        int[][] wrong = {{-1, 0, 1}, {6, 0, 1}, {4, -1, 1}, {4, 5, 1}, {4, 0, -1}, {4, 0, 2}, {6, 5, 2}};
        for (int[] a : wrong) {
            String call = "vote(" + a[0] + ", " + a[1] + ", " + a[2] + ")";
            e.keeps(Twins::rich, call, z -> z.vote(a[0], a[1], a[2]), Edges.INVALID);
        }
        e.sentence("Promise 32", "ILLEGAL_STATE if the motion is closed.");
        e.keeps(Twins::rich, "one that passed", z -> z.vote(0, 0, 0), Edges.ILLEGAL);
        e.keeps(Twins::rich, "one that did not pass", z -> z.vote(3, 0, 1), Edges.ILLEGAL);
        e.does(Twins::rich, "an open one", z -> z.vote(4, 3, 1), 3);
    }

    private static void promise33(Edges e) {
        e.sentence("Promise 33", "`int closeMotion(int motion)`: Closes a motion, and does what it tells if it passes.");
        DairyShares x = motions(2).it();
        x.vote(0, 0, 1);
        x.vote(0, 1, 1);
        x.vote(1, 0, 1);
        x.closeMotion(1);
        e.due("one of three is no quorum", x.parValue(), 100);
        x.closeMotion(0);
        e.due("two of three", x.parValue(), 500);
        e.sentence("Promise 33", "This is an action.");
        e.does(motions(1), "closeMotion(0)", z -> z.closeMotion(0), 0);
        e.does(Twins::rich, "closeMotion(4)", z -> z.closeMotion(4), 1);
        e.sentence("Promise 33", "- `motion`: a motion");
        e.does(MotionsEdges::parliament, "the first", z -> z.closeMotion(0), 0);
        e.does(MotionsEdges::parliament, "the last", z -> z.closeMotion(9), 0);
        e.sentence("Promise 33", "Returns 1 if it passes, otherwise 0;");
        for (int voters = 0; voters <= 3; voters++) {
            int due = voters >= 2 ? 1 : 0;
            e.due(voters + " of three vote for it", Check.pass(motions(0).it(), 0, 7, voters), due);
        }
        for (int kind = 0; kind < 5; kind++) {
            e.due("kind " + kind, Check.pass(motions(0).it(), kind, 7, 3), 1);
            e.due("kind " + kind, Check.pass(motions(0).it(), kind, 7, 1), 0);
        }
        e.sentence("Promise 33", "INVALID_ARGUMENT if there is no such motion;");
        noSuchMotion(e, "closeMotion", DairyShares::closeMotion);
        e.outside(Twins::rich, "closeMotion", DairyShares::closeMotion, 0, 5);
        e.sentence("Promise 33", "ILLEGAL_STATE if it is closed.");
        e.keeps(Twins::rich, "one that passed", z -> z.closeMotion(0), Edges.ILLEGAL);
        e.keeps(Twins::rich, "one that did not pass", z -> z.closeMotion(3), Edges.ILLEGAL);
        DairyShares y = OffersEdges.inStage(3, 50);
        e.due("retire 20", Check.pass(y, 3, 20, 1), 1);
        e.due("once more", y.closeMotion(0), Edges.ILLEGAL);
        e.due("done once", y.treasury(), 30);
    }

    private static void promise34(Edges e) {
        e.sentence("Promise 34", "`int votes(int member)`: - `member`: a member");
        e.keeps(MotionsEdges::parliament, "of the first", x -> x.votes(0), 1);
        e.keeps(MotionsEdges::parliament, "of the last", x -> x.votes(11), 1);
        e.sentence("Promise 34", "Returns its votes;");
        int[] due = {1, 48, 13, 6};
        for (int r = 0; r <= 3; r++) {
            int rule = r;
            e.keeps(() -> ruled(rule, 48, 12999), "rule " + r, x -> x.votes(0), due[r]);
            e.keeps(() -> ruled(rule, 48, 12999), "without a share, rule " + r, x -> x.votes(1), 0);
        }
        e.sentence("Promise 34", "INVALID_ARGUMENT if there is no such member.");
        e.noSuchMember("votes", DairyShares::votes);
    }

    private static void promise35(Edges e) {
        e.sentence("Promise 35", "`int motionState(int motion)`: - `motion`: a motion");
        e.keeps(MotionsEdges::parliament, "of the first", x -> x.motionState(0), 0);
        e.keeps(MotionsEdges::parliament, "of the last", x -> x.motionState(9), 0);
        e.sentence("Promise 35", "Returns 0 if it is open, 1 if it passed, 2 if it did not pass;");
        e.keeps(motions(1), "without a vote", x -> x.motionState(0), 0);
        e.keeps(Twins::rich, "with votes", x -> x.motionState(4), 0);
        e.keeps(Twins::rich, "that passed", x -> x.motionState(0), 1);
        e.keeps(Twins::rich, "that did not pass", x -> x.motionState(3), 2);
        DairyShares y = motions(1).it();
        y.closeMotion(0);
        e.due("closed", y.motionState(0), 2);
        y.undo();
        e.due("open after an undo", y.motionState(0), 0);
        e.sentence("Promise 35", "INVALID_ARGUMENT if there is no such motion.");
        noSuchMotion(e, "motionState", DairyShares::motionState);
    }

    private static void promise36(Edges e) {
        e.sentence("Promise 36", "`int votesFor(int motion)`: - `motion`: a motion");
        Twins.Make voted = () -> {
            DairyShares x = parliament();
            for (int m = 0; m < 12; m++) {
                x.vote(0, m, 1);
                x.vote(9, m, m % 11 == 0 ? 1 : 0);
            }
            return x;
        };
        e.keeps(voted, "of the first", x -> x.votesFor(0), 12);
        e.keeps(voted, "of the last", x -> x.votesFor(9), 2);
        e.sentence("Promise 36", "Returns the votes of all members who voted for it, as they are now"
            + " (also of a closed motion);");
        e.keeps(voted, "without votes", x -> x.votesFor(1), 0);
        for (int closed = 0; closed <= 2; closed++) {
            DairyShares x = Check.register(3, 10, 20, 30);
            x.setVoting(1, 0);
            x.propose(4, 1);
            x.vote(0, 0, closed == 1 ? 1 : 0);
            x.vote(0, 1, 1);
            x.vote(0, 2, closed == 1 ? 1 : 0);
            int others = closed == 1 ? 40 : 0;
            if (closed > 0) {
                e.due("closed", x.closeMotion(0), closed == 1 ? 1 : 0);
            }
            e.due("state", x.motionState(0), closed);
            e.due("votes", x.votesFor(0), 20 + others);
            x.issue(1, 1);
            e.due("one share more", x.votesFor(0), 21 + others);
            x.setVoting(0, 0);
            e.due("another rule", x.votesFor(0), closed == 1 ? 3 : 1);
            x.setVoting(3, 0);
            e.due("roots: 4, and 3 and 5", x.votesFor(0), closed == 1 ? 12 : 4);
        }
        DairyShares poor = Check.register(2, 0, 5);
        poor.propose(0, 7);
        poor.vote(0, 0, 1);
        e.due("without a share", poor.votesFor(0), 0);
        poor.issue(0, 1);
        e.due("with the first share", poor.votesFor(0), 1);
        e.sentence("Promise 36", "INVALID_ARGUMENT if there is no such motion.");
        noSuchMotion(e, "votesFor", DairyShares::votesFor);
    }
}
