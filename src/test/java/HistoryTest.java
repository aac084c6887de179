/** Promises 37 to 39: days, the history and undo. */
public final class HistoryTest {
    private static final Check c = new Check("HistoryTest");

    public static void main(String[] args) {
        promise37Day();
        promise38HistorySize();
        promise39Undo();
        queriesAndErrorsRecordNothing();
        everythingComesBack();
        closedMotionsComeBack();
        offersGoOnAfterUndo();
        motionsGoOnAfterUndo();
        c.end();
    }

    private static void promise37Day() {
        DairyShares x = new DairyShares();
        c.due("37 at first", x.day(), 0);
        x.passDays(60);
        c.due("37 sixty", x.day(), 60);
        x.passDays(1);
        c.due("37 one more", x.day(), 61);
        x.passDays(61);
        c.due("37 not by an error", x.day(), 61);
        x.undo();
        c.due("37 undo", x.day(), 60);
    }

    private static void promise38HistorySize() {
        DairyShares x = new DairyShares();
        int[] sizes = {1, 2, 3, 4, 4, 4};
        for (int size : sizes) {
            x.join();
            c.due("38 size", x.historySize(), size);
        }
        x.setMilk(0, 0);
        c.due("38 also if nothing changes", x.historySize(), 4);
        x.undo();
        c.due("38 after undo", x.historySize(), 3);
        c.due("38 the sixth is still there", x.memberCount(), 6);
    }

    private static void promise39Undo() {
        DairyShares x = new DairyShares();
        c.due("39 empty", x.undo(), Check.ILLEGAL);
        for (int m = 0; m < 6; m++) {
            x.join();
        }
        c.due("39 fourth", x.undo(), 3);
        c.due("39 members", x.memberCount(), 5);
        c.due("39 third", x.undo(), 2);
        c.due("39 an action in between", x.setTreasuryLimit(9), 50);
        c.due("39 size", x.historySize(), 3);
        c.due("39 undo it", x.undo(), 2);
        c.due("39 the limit again", x.setTreasuryLimit(8), 50);
        c.due("39 undo it", x.undo(), 2);
        c.due("39 second", x.undo(), 1);
        c.due("39 first", x.undo(), 0);
        c.due("39 the oldest two were dropped", x.memberCount(), 2);
        c.due("39 empty again", x.undo(), Check.ILLEGAL);
        c.due("39 nothing changed", x.memberCount(), 2);
        x.join();
        x.join();
        c.due("39 recorded again", x.historySize(), 2);
        c.due("39 undo", x.undo(), 1);
        c.due("39 members", x.memberCount(), 3);
        c.due("39 join after undo", x.join(), 3);
    }

    private static void queriesAndErrorsRecordNothing() {
        DairyShares x = Check.register(2, 10);
        x.offer(0, 1, 5, 100);
        x.undo();
        x.undo();
        int kept = x.historySize();
        x.offer(0, 1, 0, 100);
        x.issue(5, 5);
        x.setMilk(0, -1);
        x.setLitersPerShare(1);
        x.setTreasuryLimit(-1);
        x.setBooks(-1, 0);
        x.addSurplus(2000000);
        x.valuate();
        x.claim(0, 0, 1);
        x.withdraw(0);
        x.passDays(0);
        x.setVoting(9, 0);
        x.propose(9, 0);
        x.vote(0, 0, 1);
        x.closeMotion(0);
        x.shares(0);
        x.account(0);
        x.votes(0);
        c.due("38 errors and queries", x.historySize(), kept);
    }

    /** One action at a time is undone, and what it changed is as it was. */
    private static void everythingComesBack() {
        DairyShares x = Check.register(4, 100, 20, 20);
        x.setMilk(3, 9000);
        x.offer(0, 1, 30, 150);
        x.propose(4, 100);
        String before = picture(x);
        for (int action = 0; action < 15; action++) {
            x.setTreasuryLimit(50);
            int kept = x.historySize();
            act(x, action);
            c.due("38 action " + action, x.historySize(), Math.min(kept + 1, 4));
            x.undo();
            x.undo();
            c.holds("39 action " + action + " undone: " + picture(x), before.equals(picture(x)));
        }
        // The settings show only when they are set again.
        x.setLitersPerShare(777);
        x.setTreasuryLimit(77);
        x.setBooks(7, 1);
        x.setVoting(3, 7);
        for (int i = 0; i < 4; i++) {
            x.undo();
        }
        c.due("39 liters", x.setLitersPerShare(1000), 1000);
        c.due("39 limit", x.setTreasuryLimit(50), 50);
        c.due("39 books", x.setBooks(0, 0), 0);
        c.due("39 rule", x.setVoting(0, 50), 0);
        c.due("39 surpluses", x.addSurplus(0), 1);
    }

    private static void act(DairyShares x, int action) {
        switch (action) {
            case 0: x.join(); break;
            case 1: x.issue(2, 9); break;
            case 2: x.setMilk(0, 12345); break;
            case 3: x.setLitersPerShare(100); break;
            case 4: x.setTreasuryLimit(0); break;
            case 5: x.setBooks(1000000, 0); break;
            case 6: x.addSurplus(500); break;
            case 7: x.valuate(); break;
            case 8: x.offer(0, 2, 3, 100); break;
            case 9: x.claim(0, 3, 4); break;
            case 10: x.withdraw(0); break;
            case 11: x.passDays(60); break;
            case 12: x.setVoting(2, 1); break;
            case 13: x.propose(0, 9); break;
            default: x.vote(0, 2, 1); break;
        }
    }

    private static String picture(DairyShares x) {
        StringBuilder text = new StringBuilder();
        text.append(x.memberCount()).append(' ').append(x.allShares()).append(' ').append(x.day());
        text.append(' ').append(x.treasury()).append(' ').append(x.price()).append(' ').append(x.parValue());
        for (int m = 0; m < 5; m++) {
            text.append("\nm ").append(x.shares(m)).append(' ').append(x.account(m)).append(' ');
            text.append(x.requirement(m)).append(' ').append(x.freeShares(m)).append(' ');
            text.append(x.room(m)).append(' ').append(x.votes(m)).append(' ').append(x.claimOf(0, m));
        }
        for (int o = 0; o < 2; o++) {
            text.append("\no ").append(x.stage(o)).append(' ').append(x.remaining(o)).append(' ');
            text.append(x.daysLeft(o)).append(' ').append(x.sold(o, 0)).append(' ').append(x.sold(o, 1));
            text.append(' ').append(x.sold(o, 2)).append(' ').append(x.sold(o, 3));
            text.append("\nq ").append(x.motionState(o)).append(' ').append(x.votesFor(o));
        }
        return text.toString();
    }

    private static void closedMotionsComeBack() {
        DairyShares x = Check.register(2, 100, 20);
        x.offer(0, 1, 50, 100);
        x.passDays(9);
        long account = x.account(0);
        int room = x.room(1);
        int treasury = x.treasury();
        int[] values = {500, 50, 7, 10, 30};
        for (int kind = 0; kind < 5; kind++) {
            int kept = Check.pass(x, kind, values[kind], 2);
            c.due("39 kind " + kind + " passes", kept, 1);
            c.due("39 closing is recorded", x.undo(), 3);
            c.due("39 motion open again", x.motionState(kind), 0);
            c.due("39 par", x.parValue(), 100);
            c.due("39 cap", x.room(1), room);
            c.due("39 treasury", x.treasury(), treasury);
            c.due("39 account", x.account(0), account);
        }
        x.offer(0, 1, 1, 100);
        c.due("39 stage length", x.daysLeft(1), 3);
        x.undo();
        c.due("33 a failed closing is recorded, too", x.setVoting(0, 100), 0);
        x.propose(0, 5);
        c.due("33 fails", x.closeMotion(5), 0);
        c.due("39 undo it", x.undo(), 3);
        c.due("39 open", x.motionState(5), 0);
    }

    /** What an undo brought back must serve the days to come, not only the queries. */
    private static void offersGoOnAfterUndo() {
        DairyShares x = Check.register(4, 10, 100, 100, 10);
        x.setMilk(3, 30000);
        x.offer(1, 0, 30, 300);
        x.offer(2, 3, 30, 400);
        x.claim(0, 3, 4);
        x.claim(1, 3, 5);
        x.setTreasuryLimit(20);
        Check.pass(x, 2, 5, 4);
        x.setBooks(44000, 0);
        x.valuate();
        x.passDays(2);
        x.undo();
        c.due("39 price", x.price(), 120);
        x.passDays(3);
        c.due("39 first offer", x.sold(0, 0), 4);
        c.due("39 second offer", x.sold(1, 0), 5);
        c.due("39 stage length", x.daysLeft(0), 5);
        c.due("39 paid the price", x.account(3), -1000 - 9 * 120);
        x.passDays(9);
        x.undo();
        c.due("39 closed then", x.passDays(10), 2);
        c.due("39 sold in stage 0", x.sold(1, 0), 5);
        c.due("39 treasury", x.treasury(), 20);
        c.due("39 to the first buyer", x.shares(0), 16);
        c.due("39 at what it offered", x.account(0), -1000 - 6 * 300);
        c.due("39 to the second buyer", x.shares(3), 44);
        c.due("39 at what it offered", x.account(3), -1000 - 9 * 120 - 25 * 400);
        c.due("39 the first seller", x.account(1), -10000 + 24 * 120 + 6 * 300);
        c.due("39 the second seller", x.account(2), -10000 + 5 * 120 + 25 * 400);
    }

    private static void motionsGoOnAfterUndo() {
        DairyShares x = Check.register(4, 10, 10, 10, 10);
        c.due("39 cap", Check.pass(x, 1, 50, 4), 1);
        x.setVoting(0, 75);
        x.propose(0, 200);
        x.propose(4, 50);
        for (int m = 0; m < 3; m++) {
            x.vote(1, m, 1);
            x.vote(2, m, m == 0 ? 0 : 1);
        }
        x.join();
        x.undo();
        c.due("39 the motion before is closed", x.closeMotion(0), Check.ILLEGAL);
        c.due("39 the cap stays", x.room(0), 10);
        c.due("39 votes", x.votesFor(1), 3);
        c.due("39 votes", x.votesFor(2), 2);
        c.due("39 quorum 75 of 3 in 4", x.closeMotion(1), 1);
        c.due("39 its value", x.parValue(), 200);
        c.due("39 the other's kind", x.closeMotion(2), 1);
        c.due("39 its value", x.account(3), -1000 + 10 * 200 * 50 / 100);
        x.undo();
        x.undo();
        x.setMilk(0, 0);
        x.undo();
        x.vote(1, 0, 0);
        x.vote(1, 1, 0);
        c.due("39 one of three", x.votesFor(1), 1);
        c.due("39 fails now", x.closeMotion(1), 0);
        DairyShares y = Check.register(4, 10, 10, 10, 10);
        y.setVoting(0, 80);
        y.join();
        y.undo();
        c.due("39 the quorum again", Check.pass(y, 0, 5, 3), 0);
    }
}
