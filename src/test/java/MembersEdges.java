/** The edges of "Members and shares" and of the promises 1 to 14, sentence by sentence. */
final class MembersEdges {
    private static final String TERMS = "Members and shares";

    private MembersEdges() {
    }

    static void run(Edges e) {
        atMostTwelveMembers(e);
        allIsZeroAtFirst(e);
        treasuryAndAllShares(e);
        atMostTenThousandShares(e);
        requirementIsRoundedUp(e);
        freeSharesAreAtLeastZero(e);
        limitIsRoundedDown(e);
        roomIsAtLeastZero(e);
        promise1(e);
        promise2(e);
        promise3(e);
        promise4(e);
        promise5(e);
        promise6(e);
        promises7To9(e);
        promises10To12(e);
        promises13And14(e);
        e.allIsQuoted(TERMS);
        for (int promise = 1; promise <= 14; promise++) {
            e.allIsQuoted("Promise " + promise);
        }
    }

    /** Member 0 has so many shares, of whom two joined. */
    private static Twins.Make holding(int shares) {
        return () -> Check.register(2, shares);
    }

    private static void atMostTwelveMembers(Edges e) {
        e.sentence(TERMS, "There are at most 12 members, numbered from 0 in the order in which they joined.");
        DairyShares x = new DairyShares();
        for (int m = 0; m < 12; m++) {
            e.due("no member " + m + " yet", x.shares(m), Edges.INVALID);
            e.due("join", x.join(), m);
            x.issue(m, m + 1);
        }
        for (int m = 0; m < 12; m++) {
            e.due("shares(" + m + ")", x.shares(m), m + 1);
        }
        e.does(() -> Check.register(10), "join as the eleventh", DairyShares::join, 10);
        e.does(() -> Check.register(11), "join as the twelfth", DairyShares::join, 11);
        e.keeps(() -> Check.register(12), "join as the thirteenth", DairyShares::join, Edges.FULL);
    }

    private static void allIsZeroAtFirst(Edges e) {
        e.sentence(TERMS, "A member has shares, the liters of milk delivered in the current year, and an account,"
            + " which can be below 0; all of them are 0 at first.");
        DairyShares x = Check.register(1, 500);
        x.setMilk(0, 7000);
        int late = x.join();
        e.due("shares", x.shares(late), 0);
        e.due("account", x.account(late), 0);
        e.due("requirement", x.requirement(late), 0);
        e.due("milk", x.setMilk(late, 1), 0);
        DairyShares y = Check.register(1, 1);
        e.due("below 0", y.account(0), -100);
        Check.pass(y, 4, 99, 1);
        e.due("one below 0", y.account(0), -1);
        Check.pass(y, 4, 1, 1);
        e.due("0", y.account(0), 0);
        Check.pass(y, 4, 1, 1);
        e.due("one above 0", y.account(0), 1);
    }

    private static void treasuryAndAllShares(Edges e) {
        e.sentence(TERMS, "The cooperative itself has treasury shares, 0 at first.");
        e.due("of a new object", new DairyShares().treasury(), 0);
        DairyShares x = Check.register(3, 10, 4);
        e.due("with members", x.treasury(), 0);
        x.offer(0, 1, 1, 100);
        x.passDays(8);
        e.due("before the stage 2 ends", x.treasury(), 0);
        x.passDays(1);
        e.due("one share", x.treasury(), 1);

        e.sentence(TERMS, "All shares are those of the members and of the treasury together;");
        e.due("without members", new DairyShares().allShares(), 0);
        e.due("9 + 4 + 0 + 1", x.allShares(), 14);
        x.issue(2, 1);
        e.due("9 + 4 + 1 + 1", x.allShares(), 15);
        e.due("retire passes", Check.pass(x, 3, 1, 3), 1);
        e.due("9 + 4 + 1", x.allShares(), 14);
    }

    private static void atMostTenThousandShares(Edges e) {
        e.sentence(TERMS, "there are at most 10000.");
        e.does(holding(9998), "issue(1, 1)", x -> x.issue(1, 1), 9999);
        e.does(holding(9999), "issue(1, 1)", x -> x.issue(1, 1), 10000);
        e.keeps(holding(10000), "issue(1, 1)", x -> x.issue(1, 1), Edges.FULL);
        DairyShares y = Check.register(2, 9999);
        y.offer(0, 1, 50, 100);
        y.passDays(9);
        e.due("of them the treasury has 50", y.treasury(), 50);
        e.due("the treasury's count: 10000", y.issue(1, 1), 10000);
        e.due("the treasury's count: 10001", y.issue(1, 1), Edges.FULL);
        e.due("retire one", Check.pass(y, 3, 1, 2), 1);
        e.due("room for two no more", y.issue(1, 2), Edges.FULL);
        e.due("room for one", y.issue(1, 1), 10000);
        e.due("and for none more", y.issue(1, 1), Edges.FULL);
    }

    private static void requirementIsRoundedUp(Edges e) {
        e.sentence(TERMS, "The requirement of a member is the milk divided by the liters per share"
            + " (100 to 10000; 1000 at first), rounded up.");
        DairyShares first = Check.register(1);
        first.setMilk(0, 1000);
        e.due("1000 liters at first", first.requirement(0), 1);
        first.setMilk(0, 1001);
        e.due("1001 liters at first", first.requirement(0), 2);
        for (int liters : new int[] {100, 101, 999, 1000, 9999, 10000}) {
            DairyShares x = Check.register(1);
            x.setLitersPerShare(liters);
            int[][] rows = {{0, 0}, {1, 1}, {liters - 1, 1}, {liters, 1}, {liters + 1, 2},
                {2 * liters - 1, 2}, {2 * liters, 2}, {2 * liters + 1, 3}};
            for (int[] row : rows) {
                x.setMilk(0, row[0]);
                e.due(row[0] + " by " + liters, x.requirement(0), row[1]);
            }
        }
    }

    private static void freeSharesAreAtLeastZero(Edges e) {
        e.sentence(TERMS, "The free shares of a member are the shares less the requirement, less what remains of all"
            + " open offers of which it is the seller, but at least 0.");
        DairyShares x = Check.register(3, 10, 20);
        int[][] rows = {{0, 10}, {9000, 1}, {9001, 0}, {10000, 0}, {10001, 0}, {1000000, 0}};
        for (int[] row : rows) {
            x.setMilk(0, row[0]);
            e.due("10 shares, milk " + row[0], x.freeShares(0), row[1]);
        }
        x.setMilk(0, 2000);
        x.offer(0, 1, 7, 100);
        x.offer(1, 0, 5, 100);
        e.due("10 - 2 - 7, not the 5 that it would buy", x.freeShares(0), 1);
        x.offer(0, 2, 1, 100);
        e.due("10 - 2 - 8", x.freeShares(0), 0);
        x.setMilk(0, 2001);
        e.due("10 - 3 - 8, at least 0", x.freeShares(0), 0);
        x.withdraw(0);
        e.due("10 - 3 - 1, a closed one is free", x.freeShares(0), 6);
        x.setTreasuryLimit(0);
        x.passDays(9);
        e.due("30 shares have a limit of 7", x.sold(2, 3), 1);
        e.due("9 - 3, the other one sold", x.freeShares(0), 6);
    }

    private static void limitIsRoundedDown(Edges e) {
        e.sentence(TERMS, "The limit of a member is all shares times the cap (5 to 100 percent; 25 at first)"
            + " divided by 100.");
        int[][] atFirst = {{1, 0}, {3, 0}, {4, 1}, {5, 1}, {7, 1}, {8, 2}, {9999, 2499}, {10000, 2500}};
        for (int[] row : atFirst) {
            e.due("at first, of " + row[0], Check.register(2, row[0]).room(1), row[1]);
        }
        int[][] rows = {{5, 19, 0}, {5, 20, 1}, {5, 21, 1}, {5, 39, 1}, {5, 40, 2}, {5, 10000, 500}, {6, 16, 0},
            {6, 17, 1}, {99, 100, 99}, {99, 101, 99}, {99, 102, 100}, {100, 1, 1}, {100, 10000, 10000}};
        for (int[] row : rows) {
            DairyShares x = Check.register(2, row[1]);
            Check.pass(x, 1, row[0], 1);
            e.due("cap " + row[0] + " of " + row[1], x.room(1), row[2]);
        }
    }

    private static void roomIsAtLeastZero(Edges e) {
        e.sentence(TERMS, "The room of a member is its limit less its shares, but at least 0.");
        e.due("3 less 0", Check.register(2, 12).room(1), 3);
        e.due("3 less 2", Check.register(2, 10, 2).room(1), 1);
        e.due("3 less 3", Check.register(2, 9, 3).room(1), 0);
        e.due("3 less 4", Check.register(2, 8, 4).room(1), 0);
        e.due("0 less 1", Check.register(1, 1).room(0), 0);
        e.due("0 less 0", Check.register(1).room(0), 0);
        e.due("2500 less 10000", Check.register(1, 10000).room(0), 0);
    }

    private static void promise1(Edges e) {
        e.sentence("Promise 1", "`DairyShares()`: Creates a register without members.");
        Twins.Make fresh = DairyShares::new;
        e.keeps(fresh, "memberCount", DairyShares::memberCount, 0);
        e.keeps(fresh, "allShares", DairyShares::allShares, 0);
        e.keeps(fresh, "offerCount", DairyShares::offerCount, 0);
        e.keeps(fresh, "undo", DairyShares::undo, Edges.ILLEGAL);
        e.keeps(fresh, "valuate", DairyShares::valuate, Edges.ILLEGAL);
        e.keeps(fresh, "shares(0)", x -> x.shares(0), Edges.INVALID);
        e.keeps(fresh, "stage(0)", x -> x.stage(0), Edges.INVALID);
        e.keeps(fresh, "motionState(0)", x -> x.motionState(0), Edges.INVALID);
        e.does(fresh, "passDays(60)", x -> x.passDays(60), 0);
        DairyShares used = Twins.rich();
        e.due("used", used.memberCount(), 5);
        e.due("another object is new", new DairyShares().memberCount(), 0);
    }

    private static void promise2(Edges e) {
        e.sentence("Promise 2", "`int join()`: Lets a member join.");
        DairyShares x = new DairyShares();
        e.due("before", x.shares(0), Edges.INVALID);
        x.join();
        e.due("after", x.shares(0), 0);
        e.due("no second one", x.shares(1), Edges.INVALID);
        e.sentence("Promise 2", "This is an action.");
        e.does(DairyShares::new, "join()", DairyShares::join, 0);
        e.does(Twins::rich, "join()", DairyShares::join, 5);
        e.sentence("Promise 2", "Returns its number;");
        for (int m = 0; m < 12; m++) {
            int members = m;
            e.does(() -> Check.register(members), "join()", DairyShares::join, m);
        }
        e.sentence("Promise 2", "CAPACITY_EXCEEDED if there are 12 members.");
        e.due("of eleven", Check.register(11).join(), 11);
        e.keeps(() -> Check.register(12), "join()", DairyShares::join, Edges.FULL);
        DairyShares full = Check.register(12);
        full.undo();
        e.due("room after an undo", full.join(), 11);
        e.due("and none then", full.join(), Edges.FULL);
    }

    private static void promise3(Edges e) {
        e.sentence("Promise 3", "`int issue(int member, int count)`: Issues new shares to a member,"
            + " who pays the price for each.");
        DairyShares x = Check.register(2, 1);
        x.setBooks(200, 0);
        x.valuate();
        x.issue(1, 1000);
        e.due("shares", x.shares(1), 1000);
        e.due("the price of 120, not the par value", x.account(1), -120000);
        e.due("no other one pays", x.account(0), -100);
        e.due("no other one gets them", x.shares(0), 1);
        dearestShares(e);
        e.sentence("Promise 3", "The cap does not count here.");
        DairyShares y = Check.register(2, 9, 3);
        e.due("no room", y.room(1), 0);
        e.due("issue without room", y.issue(1, 1000), 1012);
        e.sentence("Promise 3", "This is an action.");
        e.does(holding(5), "issue(1, 3)", z -> z.issue(1, 3), 8);
        e.does(Twins::rich, "issue(4, 7)", z -> z.issue(4, 7), 297);
        e.sentence("Promise 3", "- `member`: a member");
        e.does(() -> Check.register(12), "to the first", z -> z.issue(0, 1), 1);
        e.does(() -> Check.register(12), "to the last", z -> z.issue(11, 1), 1);
        e.noSuchMember("issue", (z, m) -> z.issue(m, 1));
        e.sentence("Promise 3", "- `count`: 1 to 1000");
        e.within(holding(5), "issue(1)", (z, n) -> z.issue(1, n), 1, 1000, n -> 5 + n);
        e.outside(holding(5), "issue(1)", (z, n) -> z.issue(1, n), 1, 1000);
        e.sentence("Promise 3", "Returns all shares then;");
        e.due("all of both", Check.register(2, 3, 4).issue(0, 5), 12);
        DairyShares t = Check.register(2, 100);
        t.offer(0, 1, 30, 100);
        t.passDays(9);
        e.due("the treasury's too", t.issue(1, 1), 101);
        e.sentence("Promise 3", "INVALID_ARGUMENT if there is no such member or count is out of range;");
        e.keeps(Twins::rich, "issue(5, 1)", z -> z.issue(5, 1), Edges.INVALID);
        e.keeps(Twins::rich, "issue(-1, 1)", z -> z.issue(-1, 1), Edges.INVALID);
        e.keeps(Twins::rich, "issue(4, 0)", z -> z.issue(4, 0), Edges.INVALID);
        e.keeps(Twins::rich, "issue(4, 1001)", z -> z.issue(4, 1001), Edges.INVALID);
        e.keeps(Twins::rich, "issue(5, 1001)", z -> z.issue(5, 1001), Edges.INVALID);
        issueBeyondTheGreatestNumber(e);
    }

    /** A share costs 64000000 at most: an account soon leaves the range of an int. */
    private static void dearestShares(Edges e) {
        DairyShares x = Check.register(1, 1);
        x.setBooks(100000000, 0);
        x.addSurplus(1000000);
        e.due("the greatest price", x.valuate(), 64000000);
        for (int i = 1; i <= 9; i++) {
            e.due("issue", x.issue(0, 1000), 1 + 1000 * i);
            e.due("account", x.account(0), -100 - 64000000000L * i);
        }
        e.due("issue", x.issue(0, 999), 10000);
        e.due("account of 10000", x.account(0), -100 - 64000000L * 9999);
    }

    private static void issueBeyondTheGreatestNumber(Edges e) {
        e.sentence("Promise 3", "CAPACITY_EXCEEDED if there would be more than 10000 shares.");
        e.does(holding(8999), "1000 to 8999", x -> x.issue(1, 1000), 9999);
        e.does(holding(9000), "1000 to 9000", x -> x.issue(1, 1000), 10000);
        e.keeps(holding(9001), "1000 to 9001", x -> x.issue(1, 1000), Edges.FULL);
        e.does(holding(9997), "2 to 9997", x -> x.issue(1, 2), 9999);
        e.does(holding(9998), "2 to 9998", x -> x.issue(1, 2), 10000);
        e.keeps(holding(9999), "2 to 9999", x -> x.issue(1, 2), Edges.FULL);
        e.keeps(holding(10000), "1 to 10000", x -> x.issue(0, 1), Edges.FULL);
        e.keeps(holding(10000), "1000 to 10000", x -> x.issue(0, 1000), Edges.FULL);
    }

    private static void promise4(Edges e) {
        e.sentence("Promise 4", "`int setMilk(int member, int liters)`: Sets the milk of a member.");
        DairyShares x = Check.register(3, 1, 1);
        x.setMilk(1, 1000000);
        e.due("its requirement", x.requirement(1), 1000);
        e.due("of no other", x.requirement(0), 0);
        e.due("of no other", x.requirement(2), 0);
        e.sentence("Promise 4", "This is an action.");
        e.does(holding(5), "setMilk(1, 3)", z -> z.setMilk(1, 3), 0);
        e.does(Twins::rich, "setMilk(1, 45001) again", z -> z.setMilk(1, 45001), 45001);
        e.sentence("Promise 4", "- `member`: a member");
        e.does(() -> Check.register(12), "of the first", z -> z.setMilk(0, 1), 0);
        e.does(() -> Check.register(12), "of the last", z -> z.setMilk(11, 1), 0);
        e.noSuchMember("setMilk", (z, m) -> z.setMilk(m, 1));
        e.sentence("Promise 4", "- `liters`: 0 to 1000000");
        e.within(holding(5), "setMilk(0)", (z, n) -> z.setMilk(0, n), 0, 1000000, n -> 0);
        e.outside(holding(5), "setMilk(0)", (z, n) -> z.setMilk(0, n), 0, 1000000);
        e.sentence("Promise 4", "Returns the previous milk;");
        for (int liters : new int[] {0, 1, 999999, 1000000}) {
            x.setMilk(2, liters);
            e.due("after " + liters, x.setMilk(2, 5), liters);
            e.due("then", x.setMilk(2, 5), 5);
        }
        e.sentence("Promise 4", "INVALID_ARGUMENT if there is no such member or liters is out of range.");
        e.keeps(Twins::rich, "setMilk(5, 0)", z -> z.setMilk(5, 0), Edges.INVALID);
        e.keeps(Twins::rich, "setMilk(-1, 0)", z -> z.setMilk(-1, 0), Edges.INVALID);
        e.keeps(Twins::rich, "setMilk(4, -1)", z -> z.setMilk(4, -1), Edges.INVALID);
        e.keeps(Twins::rich, "setMilk(4, 1000001)", z -> z.setMilk(4, 1000001), Edges.INVALID);
        e.keeps(Twins::rich, "setMilk(5, -1)", z -> z.setMilk(5, -1), Edges.INVALID);
    }

    private static void promise5(Edges e) {
        e.sentence("Promise 5", "`int setLitersPerShare(int liters)`: Sets the liters per share.");
        DairyShares x = Check.register(2, 1);
        x.setMilk(0, 1000000);
        x.setMilk(1, 100);
        int[][] rows = {{100, 10000, 1}, {101, 9901, 1}, {99, 9901, 1}, {9999, 101, 1}, {10000, 100, 1}, {10001, 100, 1}};
        for (int[] row : rows) {
            x.setLitersPerShare(row[0]);
            e.due("requirement by " + row[0], x.requirement(0), row[1]);
            e.due("requirement of 100 by " + row[0], x.requirement(1), row[2]);
        }
        e.sentence("Promise 5", "This is an action.");
        e.does(holding(5), "setLitersPerShare(300)", z -> z.setLitersPerShare(300), 1000);
        e.does(Twins::rich, "setLitersPerShare(900) again", z -> z.setLitersPerShare(900), 900);
        e.sentence("Promise 5", "- `liters`: 100 to 10000");
        e.within(holding(5), "setLitersPerShare", DairyShares::setLitersPerShare, 100, 10000, n -> 1000);
        e.sentence("Promise 5", "Returns the previous number;");
        for (int liters : new int[] {100, 101, 9999, 10000}) {
            x.setLitersPerShare(liters);
            e.due("after " + liters, x.setLitersPerShare(500), liters);
        }
        e.sentence("Promise 5", "INVALID_ARGUMENT if liters is out of range.");
        e.outside(Twins::rich, "setLitersPerShare", DairyShares::setLitersPerShare, 100, 10000);
        e.keeps(Twins::rich, "setLitersPerShare(0)", z -> z.setLitersPerShare(0), Edges.INVALID);
    }

    private static void promise6(Edges e) {
        e.sentence("Promise 6", "`int setTreasuryLimit(int limit)`: Sets the treasury limit.");
        int[][] rows = {{0, 0}, {1, 1}, {-1, 50}, {999, 999}, {1000, 1000}, {1001, 50}};
        for (int[] row : rows) {
            DairyShares x = Check.register(2, 2000);
            x.setTreasuryLimit(row[0]);
            x.offer(0, 1, 1000, 100);
            x.passDays(9);
            e.due("treasury with the limit " + row[0], x.treasury(), row[1]);
        }
        e.sentence("Promise 6", "This is an action.");
        e.does(holding(5), "setTreasuryLimit(30)", z -> z.setTreasuryLimit(30), 50);
        e.does(Twins::rich, "setTreasuryLimit(33) again", z -> z.setTreasuryLimit(33), 33);
        e.sentence("Promise 6", "- `limit`: 0 to 1000");
        e.within(holding(5), "setTreasuryLimit", DairyShares::setTreasuryLimit, 0, 1000, n -> 50);
        e.sentence("Promise 6", "Returns the previous limit;");
        DairyShares y = new DairyShares();
        for (int limit : new int[] {0, 1, 999, 1000}) {
            y.setTreasuryLimit(limit);
            e.due("after " + limit, y.setTreasuryLimit(5), limit);
        }
        e.sentence("Promise 6", "INVALID_ARGUMENT if limit is out of range.");
        e.outside(Twins::rich, "setTreasuryLimit", DairyShares::setTreasuryLimit, 0, 1000);
    }

    private static void promises7To9(Edges e) {
        e.sentence("Promise 7", "`int memberCount()`: Returns the number of members.");
        for (int members : new int[] {0, 1, 2, 11, 12}) {
            e.keeps(() -> Check.register(members), "of " + members, DairyShares::memberCount, members);
        }
        DairyShares x = Check.register(12);
        x.join();
        e.due("after a refused thirteenth", x.memberCount(), 12);

        e.sentence("Promise 8", "`int shares(int member)`: - `member`: a member");
        e.keeps(() -> Check.register(12, 3), "shares(0)", z -> z.shares(0), 3);
        e.keeps(() -> Check.register(12, 3), "shares(11)", z -> z.shares(11), 0);
        e.sentence("Promise 8", "Returns its shares;");
        for (int shares : new int[] {0, 1, 9999, 10000}) {
            e.keeps(holding(shares), "shares(0)", z -> z.shares(0), shares);
        }
        e.sentence("Promise 8", "INVALID_ARGUMENT if there is no such member.");
        e.noSuchMember("shares", DairyShares::shares);

        e.sentence("Promise 9", "`long account(int member)`: - `member`: a member");
        e.keeps(() -> Check.register(12, 3), "account(0)", z -> z.account(0), -300);
        e.keeps(() -> Check.register(12, 3), "account(11)", z -> z.account(11), 0);
        e.sentence("Promise 9", "Returns its account;");
        for (int shares : new int[] {0, 1, 9999, 10000}) {
            e.keeps(holding(shares), "account(0)", z -> z.account(0), -100L * shares);
        }
        e.sentence("Promise 9", "INVALID_ARGUMENT if there is no such member.");
        e.noSuchMember("account", DairyShares::account);
    }

    private static Twins.Make withMilk(int liters) {
        return () -> {
            DairyShares x = Check.register(12, 10, 20);
            x.setMilk(0, liters);
            x.setMilk(11, liters);
            return x;
        };
    }

    private static void promises10To12(Edges e) {
        e.sentence("Promise 10", "`int requirement(int member)`: - `member`: a member");
        e.keeps(withMilk(4001), "requirement(0)", x -> x.requirement(0), 5);
        e.keeps(withMilk(4001), "requirement(11)", x -> x.requirement(11), 5);
        e.sentence("Promise 10", "Returns its requirement;");
        e.keeps(withMilk(0), "of no milk", x -> x.requirement(0), 0);
        e.keeps(withMilk(1), "of one liter", x -> x.requirement(0), 1);
        e.keeps(withMilk(1000000), "of the most milk", x -> x.requirement(0), 1000);
        e.sentence("Promise 10", "INVALID_ARGUMENT if there is no such member.");
        e.noSuchMember("requirement", DairyShares::requirement);

        e.sentence("Promise 11", "`int freeShares(int member)`: - `member`: a member");
        e.keeps(withMilk(4001), "freeShares(0)", x -> x.freeShares(0), 5);
        e.keeps(withMilk(4001), "freeShares(11)", x -> x.freeShares(11), 0);
        e.sentence("Promise 11", "Returns its free shares;");
        e.keeps(withMilk(9000), "one is free", x -> x.freeShares(0), 1);
        e.keeps(withMilk(10000), "none is free", x -> x.freeShares(0), 0);
        e.keeps(withMilk(10001), "one is missing", x -> x.freeShares(0), 0);
        e.sentence("Promise 11", "INVALID_ARGUMENT if there is no such member.");
        e.noSuchMember("freeShares", DairyShares::freeShares);

        e.sentence("Promise 12", "`int room(int member)`: - `member`: a member");
        e.keeps(withMilk(0), "room(0), 30 * 25 / 100 less 10", x -> x.room(0), 0);
        e.keeps(withMilk(0), "room(11)", x -> x.room(11), 7);
        e.sentence("Promise 12", "Returns its room;");
        e.keeps(() -> Check.register(2, 10, 2), "one", x -> x.room(1), 1);
        e.keeps(() -> Check.register(2, 9, 3), "none", x -> x.room(1), 0);
        e.keeps(() -> Check.register(2, 8, 4), "one too many", x -> x.room(1), 0);
        e.sentence("Promise 12", "INVALID_ARGUMENT if there is no such member.");
        e.noSuchMember("room", DairyShares::room);
    }

    private static void promises13And14(Edges e) {
        e.sentence("Promise 13", "`int allShares()`: Returns all shares.");
        e.keeps(DairyShares::new, "of a new object", DairyShares::allShares, 0);
        e.keeps(holding(1), "one", DairyShares::allShares, 1);
        e.keeps(holding(10000), "the most", DairyShares::allShares, 10000);
        e.keeps(Twins::rich, "with the treasury's", DairyShares::allShares, 290);
        e.due("of the last member", last(7).allShares(), 7);

        e.sentence("Promise 14", "`int treasury()`: Returns the treasury shares.");
        e.keeps(DairyShares::new, "of a new object", DairyShares::treasury, 0);
        e.keeps(() -> bought(1), "one", DairyShares::treasury, 1);
        e.keeps(() -> bought(999), "one less than the most", DairyShares::treasury, 999);
        e.keeps(() -> bought(1000), "the most", DairyShares::treasury, 1000);
        DairyShares x = bought(1000);
        x.undo();
        e.due("after an undo", x.treasury(), 0);
    }

    private static DairyShares last(int shares) {
        DairyShares x = Check.register(12);
        x.issue(11, shares);
        return x;
    }

    /** The treasury has bought so many shares of an offer. */
    private static DairyShares bought(int shares) {
        DairyShares x = Check.register(2, 2000);
        x.setTreasuryLimit(1000);
        x.offer(0, 1, shares, 100);
        x.passDays(9);
        return x;
    }
}
