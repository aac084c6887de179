/** Promises 1 to 14: a new object, members and shares. */
public final class MembersTest {
    private static final Check c = new Check("MembersTest");

    public static void main(String[] args) {
        promise1NewObject();
        promise2Join();
        promise3Issue();
        promise4SetMilk();
        promise5SetLitersPerShare();
        promise6SetTreasuryLimit();
        promise7MemberCount();
        promise8Shares();
        promise9Account();
        promise10Requirement();
        promise11FreeShares();
        promise12Room();
        promise13And14AllSharesAndTreasury();
        c.end();
    }

    private static void promise1NewObject() {
        DairyShares x = new DairyShares();
        c.due("1 memberCount", x.memberCount(), 0);
        c.due("1 allShares", x.allShares(), 0);
        c.due("1 treasury", x.treasury(), 0);
        c.due("1 price", x.price(), 100);
        c.due("1 parValue", x.parValue(), 100);
        c.due("1 offerCount", x.offerCount(), 0);
        c.due("1 day", x.day(), 0);
        c.due("1 historySize", x.historySize(), 0);
        c.due("1 undo", x.undo(), Check.ILLEGAL);
        c.due("1 shares(0)", x.shares(0), Check.INVALID);
        c.due("1 stage(0)", x.stage(0), Check.INVALID);
        c.due("1 motionState(0)", x.motionState(0), Check.INVALID);
        c.due("1 litersPerShare", x.setLitersPerShare(2000), 1000);
        c.due("1 treasuryLimit", x.setTreasuryLimit(7), 50);
        c.due("1 books", x.setBooks(1, 0), 0);
        c.due("1 rule", x.setVoting(2, 60), 0);
        DairyShares other = new DairyShares();
        c.due("1 another object", other.setLitersPerShare(500), 1000);
        c.due("1 constants", DairyShares.INVALID_ARGUMENT, Check.INVALID);
        c.due("1 constants", DairyShares.ILLEGAL_STATE, Check.ILLEGAL);
        c.due("1 constants", DairyShares.CAPACITY_EXCEEDED, Check.FULL);
        c.due("1 constants", DairyShares.NONE, Check.NONE);
    }

    private static void promise2Join() {
        DairyShares x = new DairyShares();
        for (int m = 0; m < 12; m++) {
            c.due("2 join", x.join(), m);
            c.due("2 shares at first", x.shares(m), 0);
            c.due("2 account at first", x.account(m), 0);
            c.due("2 milk at first", x.requirement(m), 0);
        }
        x.setVoting(0, 0);
        x.undo();
        c.due("2 history", x.historySize(), 3);
        c.due("2 thirteenth", x.join(), Check.FULL);
        c.due("2 memberCount", x.memberCount(), 12);
        c.due("2 an error is not recorded", x.historySize(), 3);
        c.due("2 undo a join", x.undo(), 2);
        c.due("2 memberCount then", x.memberCount(), 11);
        c.due("2 the last number again", x.join(), 11);
    }

    private static void promise3Issue() {
        DairyShares x = Check.register(2);
        c.due("3 count 1", x.issue(0, 1), 1);
        c.due("3 count 1000", x.issue(1, 1000), 1001);
        c.due("3 shares", x.shares(1), 1000);
        c.due("3 account", x.account(1), -100000);
        c.due("3 other account", x.account(0), -100);
        c.due("3 count 0", x.issue(0, 0), Check.INVALID);
        c.due("3 count 1001", x.issue(0, 1001), Check.INVALID);
        c.due("3 count -1", x.issue(0, -1), Check.INVALID);
        c.due("3 member 2", x.issue(2, 1), Check.INVALID);
        c.due("3 member -1", x.issue(-1, 1), Check.INVALID);
        c.due("3 nothing changed", x.allShares(), 1001);
        c.due("3 nothing recorded", x.historySize(), 4);

        DairyShares full = Check.register(2, 9000, 999);
        c.due("3 two too many", full.issue(0, 2), Check.FULL);
        c.due("3 invalid ahead of full", full.issue(0, 1001), Check.INVALID);
        c.due("3 invalid ahead of full", full.issue(2, 1000), Check.INVALID);
        c.due("3 just 10000", full.issue(0, 1), 10000);
        c.due("3 one too many", full.issue(1, 1), Check.FULL);
        c.due("3 shares stay", full.shares(1), 999);
        c.due("3 account stays", full.account(1), -99900);

        DairyShares dear = Check.register(1, 1);
        dear.setBooks(100000000, 0);
        c.due("3 dear", dear.valuate(), 60000000);
        c.due("3 dear issue", dear.issue(0, 1000), 1001);
        c.due("3 beyond an int", dear.account(0), -60000000100L);
    }

    private static void promise4SetMilk() {
        DairyShares x = Check.register(2);
        c.due("4 first", x.setMilk(1, 1000000), 0);
        c.due("4 previous", x.setMilk(1, 0), 1000000);
        c.due("4 previous 0", x.setMilk(1, 5), 0);
        c.due("4 of another", x.setMilk(0, 7), 0);
        c.due("4 too much", x.setMilk(1, 1000001), Check.INVALID);
        c.due("4 below 0", x.setMilk(1, -1), Check.INVALID);
        c.due("4 member 2", x.setMilk(2, 5), Check.INVALID);
        c.due("4 member -1", x.setMilk(-1, 5), Check.INVALID);
        c.due("4 stays", x.setMilk(1, 6), 5);
        c.due("4 recorded", x.historySize(), 4);
        c.due("4 undo", x.undo(), 3);
        c.due("4 after undo", x.setMilk(1, 8), 5);
    }

    private static void promise5SetLitersPerShare() {
        DairyShares x = Check.register(1);
        c.due("5 least", x.setLitersPerShare(100), 1000);
        c.due("5 greatest", x.setLitersPerShare(10000), 100);
        c.due("5 99", x.setLitersPerShare(99), Check.INVALID);
        c.due("5 10001", x.setLitersPerShare(10001), Check.INVALID);
        c.due("5 0", x.setLitersPerShare(0), Check.INVALID);
        c.due("5 recorded", x.historySize(), 3);
        c.due("5 same again", x.setLitersPerShare(10000), 10000);
        c.due("5 recorded though the same", x.historySize(), 4);
    }

    private static void promise6SetTreasuryLimit() {
        DairyShares x = new DairyShares();
        c.due("6 least", x.setTreasuryLimit(0), 50);
        c.due("6 greatest", x.setTreasuryLimit(1000), 0);
        c.due("6 -1", x.setTreasuryLimit(-1), Check.INVALID);
        c.due("6 1001", x.setTreasuryLimit(1001), Check.INVALID);
        c.due("6 recorded", x.historySize(), 2);
        c.due("6 stays", x.setTreasuryLimit(3), 1000);
    }

    private static void promise7MemberCount() {
        DairyShares x = new DairyShares();
        for (int m = 0; m < 12; m++) {
            c.due("7 memberCount", x.memberCount(), m);
            x.join();
        }
        c.due("7 memberCount", x.memberCount(), 12);
        c.due("7 not an action", x.historySize(), 4);
    }

    private static void promise8Shares() {
        DairyShares x = Check.register(3, 4, 5);
        c.due("8 shares(0)", x.shares(0), 4);
        c.due("8 shares(1)", x.shares(1), 5);
        c.due("8 shares(2)", x.shares(2), 0);
        c.due("8 shares(3)", x.shares(3), Check.INVALID);
        c.due("8 shares(-1)", x.shares(-1), Check.INVALID);
        c.due("8 shares(greatest)", x.shares(Integer.MAX_VALUE), Check.INVALID);
        c.due("8 shares(least)", x.shares(Integer.MIN_VALUE), Check.INVALID);
    }

    private static void promise9Account() {
        DairyShares x = Check.register(3, 4, 5);
        c.due("9 account(0)", x.account(0), -400);
        c.due("9 account(1)", x.account(1), -500);
        c.due("9 account(2)", x.account(2), 0);
        c.due("9 account(3)", x.account(3), Check.INVALID);
        c.due("9 account(-1)", x.account(-1), Check.INVALID);
        c.due("9 dividend", Check.pass(x, 4, 10, 2), 1);
        c.due("9 account(0) then", x.account(0), -360);
    }

    private static void promise10Requirement() {
        DairyShares x = Check.register(1, 3);
        int[][] rows = {{0, 0}, {1, 1}, {999, 1}, {1000, 1}, {1001, 2}, {1000000, 1000}};
        for (int[] row : rows) {
            x.setMilk(0, row[0]);
            c.due("10 requirement of " + row[0], x.requirement(0), row[1]);
        }
        x.setLitersPerShare(100);
        c.due("10 requirement by 100", x.requirement(0), 10000);
        x.setLitersPerShare(9999);
        c.due("10 requirement by 9999", x.requirement(0), 101);
        c.due("10 requirement(1)", x.requirement(1), Check.INVALID);
        c.due("10 requirement(-1)", x.requirement(-1), Check.INVALID);
    }

    private static void promise11FreeShares() {
        DairyShares x = Check.register(6, 100, 300);
        c.due("11 all free", x.freeShares(0), 100);
        x.setMilk(0, 10001);
        c.due("11 less the requirement", x.freeShares(0), 89);
        x.offer(0, 1, 20, 100);
        x.offer(0, 2, 9, 100);
        x.offer(1, 0, 50, 100);
        c.due("11 less two offers", x.freeShares(0), 60);
        c.due("11 of another", x.freeShares(1), 250);
        x.withdraw(1);
        c.due("11 a closed one does not count", x.freeShares(0), 69);
        x.setMilk(0, 500000);
        c.due("11 at least 0", x.freeShares(0), 0);
        c.due("11 without shares", x.freeShares(5), 0);
        c.due("11 freeShares(6)", x.freeShares(6), Check.INVALID);
        c.due("11 freeShares(-1)", x.freeShares(-1), Check.INVALID);

        DairyShares y = Check.register(3, 90, 10);
        y.offer(0, 1, 40, 100);
        y.passDays(3);
        y.claim(0, 2, 15);
        y.passDays(3);
        c.due("11 what remains counts", y.remaining(0), 25);
        c.due("11 shares less what remains", y.freeShares(0), 50);
        y.passDays(3);
        c.due("11 when closed", y.remaining(0), 0);
        c.due("11 all are free again", y.freeShares(0), 50);
    }

    private static void promise12Room() {
        DairyShares x = Check.register(4, 10, 9);
        c.due("12 limit 19 * 25 / 100 = 4", x.room(2), 4);
        c.due("12 above the limit", x.room(0), 0);
        c.due("12 room(4)", x.room(4), Check.INVALID);
        c.due("12 room(-1)", x.room(-1), Check.INVALID);
        x.issue(2, 5);
        c.due("12 limit 24 * 25 / 100 = 6", x.room(2), 1);
        c.due("12 cap 5 passes", Check.pass(x, 1, 5, 3), 1);
        c.due("12 limit 1", x.room(3), 1);
        c.due("12 at least 0", x.room(2), 0);
        c.due("12 cap 100 passes", Check.pass(x, 1, 100, 3), 1);
        c.due("12 limit 24", x.room(2), 19);
        c.due("12 without any shares", Check.register(1).room(0), 0);
    }

    private static void promise13And14AllSharesAndTreasury() {
        DairyShares x = Check.register(2, 100, 20);
        c.due("13 of the members", x.allShares(), 120);
        x.offer(0, 1, 60, 100);
        c.due("14 before", x.treasury(), 0);
        x.passDays(9);
        c.due("14 after", x.treasury(), 50);
        c.due("13 with the treasury's", x.allShares(), 120);
        c.due("13 the treasury counts for the cap", x.room(1), 0);
        c.due("13 buyer has 30, the limit", x.shares(1), 30);
        x.setVoting(1, 0);
        c.due("14 retire passes", Check.pass(x, 3, 20, 2), 1);
        c.due("14 after retiring", x.treasury(), 30);
        c.due("13 retired ones are none", x.allShares(), 100);
    }
}
