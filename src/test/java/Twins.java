/**
 * Tells by answers alone whether two registers are in one state. What a query does not show (milk,
 * settings, surpluses, ballots, the quorum) is shown by actions; so each look takes a new pair.
 */
final class Twins {
    /** Makes a register, and a new one in the same state at each call. */
    interface Make {
        DairyShares it();
    }

    private interface Look {
        String at(DairyShares x);
    }

    private static final Look[] LOOKS = {
        Twins::whole, Twins::members, Twins::offers, Twins::claims, Twins::motions, Twins::settings,
        Twins::voting, Twins::closing, Twins::quorum, Twins::surpluses, Twins::days, Twins::nextOffer
    };

    private Twins() {
    }

    /** The first difference of the two, each after so many undos; empty if there is none. */
    static String difference(Make a, Make b, int undos) {
        for (Look look : LOOKS) {
            String left = look.at(undone(a.it(), undos));
            String right = look.at(undone(b.it(), undos));
            if (!left.equals(right)) {
                return left + " is not " + right;
            }
        }
        return "";
    }

    private static DairyShares undone(DairyShares x, int undos) {
        for (int i = 0; i < undos; i++) {
            x.undo();
        }
        return x;
    }

    /** A register in which every part of the state is other than at first; its history is full. */
    static DairyShares rich() {
        DairyShares x = Check.register(5, 200, 40, 30, 20);
        x.setMilk(0, 20000);
        x.setMilk(1, 45001);
        x.setMilk(2, 3000);
        x.setMilk(4, 2500);
        x.setLitersPerShare(900);
        x.setBooks(90000, 1500);
        x.addSurplus(700);
        x.addSurplus(-90);
        x.addSurplus(1100);
        x.valuate();
        x.setVoting(1, 40);
        Check.pass(x, 0, 90, 2);
        Check.pass(x, 1, 30, 2);
        Check.pass(x, 2, 2, 2);
        Check.pass(x, 4, 3, 0);
        x.offer(0, 1, 30, 150);
        x.passDays(6);
        x.setTreasuryLimit(33);
        x.offer(0, 2, 25, 120);
        x.passDays(2);
        x.offer(2, 3, 8, 95);
        x.claim(1, 4, 9);
        x.claim(2, 1, 3);
        x.propose(3, 5);
        x.propose(4, 7);
        x.vote(4, 0, 1);
        x.vote(4, 2, 0);
        x.vote(5, 1, 1);
        return x;
    }

    private static String whole(DairyShares x) {
        return "members " + x.memberCount() + ", all shares " + x.allShares() + ", treasury " + x.treasury()
            + ", price " + x.price() + ", par " + x.parValue() + ", offers " + x.offerCount() + ", day " + x.day();
    }

    private static String members(DairyShares x) {
        StringBuilder text = new StringBuilder();
        for (int m = 0; m < x.memberCount(); m++) {
            text.append("member ").append(m).append(": ").append(x.shares(m)).append(' ').append(x.account(m));
            text.append(' ').append(x.requirement(m)).append(' ').append(x.freeShares(m));
            text.append(' ').append(x.room(m)).append(' ').append(x.votes(m)).append("; ");
        }
        return text.toString();
    }

    private static String offers(DairyShares x) {
        StringBuilder text = new StringBuilder();
        for (int o = 0; o < x.offerCount(); o++) {
            text.append("offer ").append(o).append(": ").append(x.stage(o)).append(' ').append(x.remaining(o));
            text.append(' ').append(x.daysLeft(o)).append(" sold");
            for (int to = 0; to < 4; to++) {
                text.append(' ').append(x.sold(o, to));
            }
            text.append("; ");
        }
        return text.toString();
    }

    private static String claims(DairyShares x) {
        StringBuilder text = new StringBuilder();
        for (int o = 0; o < x.offerCount(); o++) {
            text.append("claims of ").append(o).append(':');
            for (int m = 0; m < x.memberCount(); m++) {
                text.append(' ').append(x.claimOf(o, m));
            }
            text.append("; ");
        }
        return text.toString();
    }

    private static String motions(DairyShares x) {
        StringBuilder text = new StringBuilder();
        for (int i = 0; i < 10; i++) {
            text.append("motion ").append(i).append(": ").append(x.motionState(i));
            text.append(' ').append(x.votesFor(i)).append("; ");
        }
        return text.toString();
    }

    private static String settings(DairyShares x) {
        StringBuilder text = new StringBuilder("liters ").append(x.setLitersPerShare(500));
        text.append(", limit ").append(x.setTreasuryLimit(1)).append(", books ").append(x.setBooks(5, 5));
        for (int m = 0; m < x.memberCount(); m++) {
            text.append(", milk ").append(x.setMilk(m, 3));
        }
        return text.toString();
    }

    private static String voting(DairyShares x) {
        StringBuilder text = new StringBuilder("rule ").append(x.setVoting(1, 0)).append(", by shares ");
        text.append(motions(x));
        for (int i = 0; i < 10; i++) {
            text.append("voters ").append(x.vote(i, 0, 1)).append(' ');
        }
        return text.toString();
    }

    /** What the open motions tell, and the quorum against the votes that were given. */
    private static String closing(DairyShares x) {
        StringBuilder text = new StringBuilder("closing");
        for (int i = 0; i < 10; i++) {
            text.append(' ').append(x.closeMotion(i));
        }
        return text + ": " + whole(x) + "; " + members(x) + nextOffer(x);
    }

    private static String quorum(DairyShares x) {
        StringBuilder text = new StringBuilder("new motions");
        for (int voters = 1; voters <= x.memberCount(); voters++) {
            text.append(' ').append(Check.pass(x, 0, 100, voters));
        }
        return text.toString();
    }

    /** High books, so that no surplus hides behind the par value. */
    private static String surpluses(DairyShares x) {
        x.issue(0, 1);
        x.setBooks(100000000, 0);
        StringBuilder text = new StringBuilder("values ").append(x.valuate());
        for (int i = 0; i < 3; i++) {
            text.append(' ').append(x.addSurplus(12345)).append(' ').append(x.valuate());
        }
        return text.toString();
    }

    private static String days(DairyShares x) {
        StringBuilder text = new StringBuilder("closed");
        for (int day = 0; day < 30; day++) {
            text.append(' ').append(x.passDays(1));
        }
        return text + ": " + whole(x) + "; " + members(x) + offers(x);
    }

    /** The stage length shows in the days of a new offer alone. */
    private static String nextOffer(DairyShares x) {
        StringBuilder text = new StringBuilder("next offer");
        for (int m = 0; m < x.memberCount(); m++) {
            int offer = x.offer(m, (m + 1) % x.memberCount(), 1, 100000);
            text.append(' ').append(offer).append(" for ").append(x.daysLeft(offer)).append(" days");
        }
        return text.toString();
    }
}
