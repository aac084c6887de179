/**
 * Runs of 512 calls, drawn by a fixed sequence of numbers, on the class and on the Model: every
 * answer must be the same. Arguments are mostly fitting ones, and now and then edges and wild ones.
 */
public final class RandomRunsTest {
    private static final int RUNS = 6000;
    private static final int CALLS = 512;
    private static final int[] EDGES = {
        -1, 0, 1, 2, 3, 4, 5, 9, 10, 11, 12, 19, 20, 60, 61, 99, 100, 101, 1000, 1001, 10000, 10001, 100000,
        100001, 1000000, 1000001, -1000000, -1000001, 100000000, 100000001, Integer.MIN_VALUE, Integer.MAX_VALUE
    };

    private static final Check c = new Check("RandomRunsTest");
    private static long seed;
    private static DairyShares x;
    private static Model y;

    public static void main(String[] args) {
        for (int run = 0; run < RUNS; run++) {
            seed = 88172645463325252L + run * 7919L;
            x = new DairyShares();
            y = new Model();
            populate(run);
            for (int call = 40; call < CALLS; call++) {
                step(run, call);
            }
        }
        neverThrowsBeyondTheLimit();
        c.end();
    }

    /** At most 40 calls: members, shares and milk, so that offers and motions have something to move. */
    private static void populate(int run) {
        int members = below(12) + 1;
        for (int m = 0; m < members; m++) {
            c.due("join in run " + run, x.join(), y.join());
            int count = below(4) == 0 ? 1000 : below(90) + 1;
            c.due("issue in run " + run, x.issue(m, count), y.issue(m, count));
            int liters = below(60000);
            c.due("setMilk in run " + run, x.setMilk(m, liters), y.setMilk(m, liters));
        }
    }

    private static int below(int bound) {
        seed ^= seed << 13;
        seed ^= seed >>> 7;
        seed ^= seed << 17;
        return (int) Math.floorMod(seed >>> 11, (long) bound);
    }

    private static int in(int least, int greatest) {
        if (below(60) == 0) {
            return EDGES[below(EDGES.length)];
        }
        return least + below(greatest - least + 1);
    }

    private static int member() {
        return in(0, Math.max(0, x.memberCount() - 1));
    }

    /** The latest offers are the ones that are open. */
    private static int offer() {
        int last = Math.max(0, x.offerCount() - 1);
        return in(Math.max(0, last - 4), last);
    }

    private static int small() {
        return below(3) == 0 ? in(1, 1000) : in(1, 25);
    }

    private static void step(int run, int call) {
        String where = " (run " + run + ", call " + call + ")";
        if (below(100) < 45) {
            ask(where);
        } else if (below(100) < 60) {
            trade(where);
        } else {
            govern(where);
        }
    }

    private static void trade(String where) {
        int a = member();
        int b = member();
        int o = offer();
        int n = small();
        int p = in(90, 400);
        int pick = below(100);
        if (pick < 18) {
            c.due("offer" + where, x.offer(a, b, n, p), y.offer(a, b, n, p));
        } else if (pick < 65) {
            c.due("claim" + where, x.claim(o, a, n), y.claim(o, a, n));
        } else if (pick < 68) {
            c.due("withdraw" + where, x.withdraw(o), y.withdraw(o));
        } else if (pick < 85) {
            int days = below(8) == 0 ? in(1, 60) : in(1, 3);
            c.due("passDays" + where, x.passDays(days), y.passDays(days));
        } else if (pick < 90) {
            c.due("issue" + where, x.issue(a, n), y.issue(a, n));
        } else if (pick < 97) {
            int liters = below(5) == 0 ? in(0, 1000000) : in(0, 40000);
            c.due("setMilk" + where, x.setMilk(a, liters), y.setMilk(a, liters));
        } else {
            c.due("undo" + where, x.undo(), y.undo());
        }
    }

    private static void govern(String where) {
        int a = member();
        int motion = in(0, 9);
        switch (below(13)) {
            case 0: c.due("join" + where, x.join(), y.join()); break;
            case 1: {
                int liters = below(2) == 0 ? in(100, 10000) : 1000;
                c.due("setLitersPerShare" + where, x.setLitersPerShare(liters), y.setLitersPerShare(liters));
                break;
            }
            case 2: {
                int limit = below(3) == 0 ? in(0, 1000) : in(0, 60);
                c.due("setTreasuryLimit" + where, x.setTreasuryLimit(limit), y.setTreasuryLimit(limit));
                break;
            }
            case 3: {
                int assets = below(2) == 0 ? in(0, 100000000) : in(0, 300000);
                int debts = below(3) == 0 ? in(0, 100000000) : in(0, 1000);
                c.due("setBooks" + where, x.setBooks(assets, debts), y.setBooks(assets, debts));
                break;
            }
            case 4: {
                int amount = below(2) == 0 ? in(-1000000, 1000000) : in(-3000, 9000);
                c.due("addSurplus" + where, x.addSurplus(amount), y.addSurplus(amount));
                break;
            }
            case 5: c.due("valuate" + where, x.valuate(), y.valuate()); break;
            case 6: {
                int rule = in(0, 3);
                int quorum = in(0, 100);
                c.due("setVoting" + where, x.setVoting(rule, quorum), y.setVoting(rule, quorum));
                break;
            }
            case 7: {
                int kind = in(0, 4);
                int value = below(2) == 0 ? in(1, 120) : in(5, 10);
                c.due("propose" + where, x.propose(kind, value), y.propose(kind, value));
                break;
            }
            case 8: case 9: case 10: {
                int yes = below(4) == 0 ? in(0, 1) : 1;
                c.due("vote" + where, x.vote(motion, a, yes), y.vote(motion, a, yes));
                break;
            }
            case 11: c.due("closeMotion" + where, x.closeMotion(motion), y.closeMotion(motion)); break;
            default: c.due("undo" + where, x.undo(), y.undo()); break;
        }
    }

    private static void ask(String where) {
        int a = member();
        int o = offer();
        int motion = in(0, 9);
        int to = in(0, 3);
        switch (below(13)) {
            case 0: c.due("shares" + where, x.shares(a), y.member(0, a)); break;
            case 1: c.due("account" + where, x.account(a), y.member(1, a)); break;
            case 2: c.due("requirement" + where, x.requirement(a), y.member(2, a)); break;
            case 3: c.due("freeShares" + where, x.freeShares(a), y.member(3, a)); break;
            case 4: c.due("room" + where, x.room(a), y.member(4, a)); break;
            case 5: c.due("votes" + where, x.votes(a), y.member(5, a)); break;
            case 6: c.due("stage" + where, x.stage(o), y.deal(0, o)); break;
            case 7: c.due("remaining" + where, x.remaining(o), y.deal(1, o)); break;
            case 8: c.due("daysLeft" + where, x.daysLeft(o), y.deal(2, o)); break;
            case 9: c.due("sold" + where, x.sold(o, to), y.sold(o, to)); break;
            case 10: c.due("claimOf" + where, x.claimOf(o, a), y.claimOf(o, a)); break;
            case 11:
                c.due("motionState" + where, x.motionState(motion), y.motionState(motion));
                c.due("votesFor" + where, x.votesFor(motion), y.votesFor(motion));
                break;
            default: askWhole(where); break;
        }
    }

    private static void askWhole(String where) {
        c.due("memberCount" + where, x.memberCount(), y.whole(0));
        c.due("allShares" + where, x.allShares(), y.whole(1));
        c.due("treasury" + where, x.treasury(), y.whole(2));
        c.due("price" + where, x.price(), y.whole(3));
        c.due("parValue" + where, x.parValue(), y.whole(4));
        c.due("offerCount" + where, x.offerCount(), y.whole(5));
        c.due("day" + where, x.day(), y.whole(6));
        c.due("historySize" + where, x.historySize(), y.whole(7));
    }

    /** What later calls answer is free, but none may throw or fail to end. */
    private static void neverThrowsBeyondTheLimit() {
        seed = 424242;
        x = new DairyShares();
        y = new Model();
        for (int call = 0; call < 100000; call++) {
            step(-1, call);
        }
    }
}
