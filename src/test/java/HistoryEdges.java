/** The edges of "Undo" and "Errors" and of the promises 37 to 39, sentence by sentence. */
final class HistoryEdges {
    /** A run of actions, all of which succeed; after each of them the state is another one. */
    private static final Edges.Call[] STORY = {
        DairyShares::join, DairyShares::join, x -> x.issue(0, 90), x -> x.issue(1, 10), DairyShares::join,
        x -> x.setMilk(2, 4500), x -> x.setLitersPerShare(700), x -> x.setBooks(90000, 80),
        x -> x.addSurplus(600), x -> x.addSurplus(-50), x -> x.addSurplus(70), x -> x.addSurplus(1),
        DairyShares::valuate, x -> x.offer(0, 1, 30, 140), x -> x.claim(0, 2, 4), x -> x.claim(0, 2, 6),
        x -> x.setTreasuryLimit(11), x -> x.passDays(3), x -> x.claim(0, 1, 2), x -> x.offer(1, 2, 3, 100),
        x -> x.passDays(2), x -> x.withdraw(1), x -> x.propose(2, 7), x -> x.vote(0, 0, 1), x -> x.vote(0, 1, 1),
        x -> x.passDays(1), x -> x.closeMotion(0), x -> x.setVoting(1, 30), x -> x.propose(1, 40),
        x -> x.vote(1, 0, 1), x -> x.vote(1, 1, 0), x -> x.closeMotion(1), x -> x.passDays(3),
        x -> x.propose(3, 4), x -> x.vote(2, 0, 1), x -> x.closeMotion(2), x -> x.propose(4, 100),
        x -> x.vote(3, 0, 1), x -> x.closeMotion(3), x -> x.propose(0, 90), x -> x.vote(4, 0, 1),
        x -> x.closeMotion(4), x -> x.setVoting(3, 100), x -> x.propose(0, 80), x -> x.vote(5, 0, 1),
        x -> x.closeMotion(5), x -> x.setMilk(0, 7)
    };

    private HistoryEdges() {
    }

    static void run(Edges e) {
        atMost512Calls(e);
        atMostFourStates(e);
        everyActionRecords(e);
        theOldestIsDropped(e);
        theLatestIsRestored(e);
        errorsChangeNothing(e);
        theFirstErrorIsReturned(e);
        constants(e);
        promise37(e);
        promise38(e);
        promise39(e);
        e.allIsQuoted("Undo");
        e.allIsQuoted("Errors");
        for (int promise = 37; promise <= 39; promise++) {
            e.allIsQuoted("Promise " + promise);
        }
    }

    private static Twins.Make after(int calls) {
        return () -> {
            DairyShares x = new DairyShares();
            for (int i = 0; i < calls; i++) {
                STORY[i].on(x);
            }
            return x;
        };
    }

    /** What the register answers after its 512th call is free; but it must answer. */
    private static void atMost512Calls(Edges e) {
        e.sentence("What it is", "An object is used for at most 512 calls after it has been made;"
            + " what later calls answer is free.");
        DairyShares days = new DairyShares();
        for (int call = 1; call <= 510; call++) {
            days.passDays(60);
        }
        e.due("the 511th call", days.passDays(1), 0);
        e.due("the 512th call", days.day(), 510 * 60 + 1);
        DairyShares queries = Check.register(1, 1);
        for (int call = 3; call <= 510; call++) {
            queries.shares(call % 2);
        }
        e.due("the 511th call", queries.undo(), 1);
        e.due("the 512th call", queries.issue(0, 7), 7);
        DairyShares errors = new DairyShares();
        for (int call = 1; call <= 511; call++) {
            errors.valuate();
        }
        e.due("the 512th call", errors.join(), 0);
        for (int call = 513; call <= 2000; call++) {
            STORY[call % STORY.length].on(errors);
            errors.undo();
        }
        e.due("later calls end", 1, 1);
        e.nothingToTest("What it is", "The share register of a dairy cooperative: members with shares and delivered"
            + " milk, a price by valuation, offers of shares that go through a first refusal in stages before the"
            + " buyer gets what is left, and motions on which members vote.");
        e.allIsQuoted("What it is");
    }

    private static void atMostFourStates(Edges e) {
        e.sentence("Undo", "A history of at most 4 states is kept; a state is everything but the history.");
        for (int calls = 0; calls <= STORY.length; calls++) {
            e.due("after " + calls, after(calls).it().historySize(), Math.min(calls, 4));
        }
        // An undone call leaves no trace in the state, but the history stays shorter by what was dropped.
        Twins.Make undone = () -> {
            DairyShares x = after(5).it();
            x.undo();
            return x;
        };
        e.due("the state is the one before", Twins.difference(undone, after(4), 0).length(), 0);
        e.due("the history is not", undone.it().historySize(), 3);
    }

    private static void everyActionRecords(Edges e) {
        e.sentence("Undo", "Every successful call of a method that is called an action records the state before it"
            + " (also if nothing changes by it);");
        for (int calls = 0; calls < STORY.length; calls++) {
            DairyShares x = after(calls).it();
            long answer = STORY[calls].on(x);
            e.does(after(calls), "call " + calls, STORY[calls], answer);
            e.due("call " + calls + " succeeds", answer > -100000000 ? 1 : 0, 1);
        }
        e.does(Twins::rich, "the same milk", x -> x.setMilk(2, 3000), 3000);
        e.does(Twins::rich, "the same liters", x -> x.setLitersPerShare(900), 900);
        e.does(Twins::rich, "the same limit", x -> x.setTreasuryLimit(33), 33);
        e.does(Twins::rich, "the same books", x -> x.setBooks(90000, 1500), 88500);
        e.does(Twins::rich, "the same price", DairyShares::valuate, 190);
        e.does(Twins::rich, "the same claim", x -> x.claim(2, 1, 3), 3);
        e.does(Twins::rich, "the same vote", x -> x.vote(5, 1, 1), 1);
        e.does(Twins::rich, "the same voting", x -> x.setVoting(1, 40), 1);
        DairyShares y = new DairyShares();
        for (int i = 1; i <= 4; i++) {
            y.setTreasuryLimit(50);
            e.due("nothing changed", y.historySize(), i);
        }
        for (int i = 3; i >= 0; i--) {
            e.due("each is removed", y.undo(), i);
        }
        e.due("no more", y.undo(), Edges.ILLEGAL);
    }

    private static void theOldestIsDropped(Edges e) {
        e.sentence("Undo", "when a fifth one is recorded, the oldest one is dropped.");
        int[][] rows = {{3, 0}, {4, 0}, {5, 1}, {6, 2}, {9, 5}, {12, 8}};
        for (int[] row : rows) {
            DairyShares x = Check.register(row[0]);
            int undos = 0;
            while (undos < 20 && x.undo() >= 0) {
                undos++;
            }
            e.due("undos after " + row[0], undos, Math.min(row[0], 4));
            e.due("members left of " + row[0], x.memberCount(), row[1]);
        }
        DairyShares y = Check.register(4);
        y.undo();
        y.undo();
        y.join();
        y.join();
        e.due("four again", y.historySize(), 4);
        y.join();
        e.due("the fifth", y.historySize(), 4);
        for (int i = 3; i >= 0; i--) {
            e.due("undo", y.undo(), i);
            e.due("members", y.memberCount(), i + 1);
        }
    }

    private static void theLatestIsRestored(Edges e) {
        e.sentence("Undo", "undo() removes the latest state from the history and restores it.");
        for (int calls = 1; calls <= STORY.length; calls++) {
            for (int undos = 1; undos <= Math.min(calls, 4); undos++) {
                DairyShares x = after(calls).it();
                for (int i = 1; i <= undos; i++) {
                    e.due("undo " + i + " of " + calls, x.undo(), Math.min(calls, 4) - i);
                }
                int back = undos;
                String difference = Twins.difference(undoneAfter(calls, back), after(calls - back), 0);
                e.due(back + " of " + calls + " " + difference, difference.length(), 0);
            }
        }
        allRowsAreRestored(e);
        // What is done after an undo must not be seen in the states that are kept.
        for (int calls = 2; calls < STORY.length; calls++) {
            int before = calls;
            Twins.Make other = () -> {
                DairyShares x = after(before).it();
                x.undo();
                x.setMilk(0, 999);
                x.issue(0, 1);
                x.passDays(1);
                x.undo();
                x.undo();
                x.undo();
                return x;
            };
            e.due("another way after " + calls, Twins.difference(other, after(calls - 1), 0).length(), 0);
        }
    }

    /** Every row is in use: twelve members claim of twenty offers and vote on ten motions. */
    private static DairyShares crowded() {
        DairyShares x = Check.register(12, 2000);
        for (int m = 1; m < 12; m++) {
            x.setMilk(m, 1000000);
            x.issue(m, m);
        }
        for (int o = 0; o < 20; o++) {
            x.offer(0, 1 + o % 11, 40 + o, 100 + o);
            x.claim(o, 1, 1);
            x.claim(o, 11, 2);
        }
        x.passDays(3);
        for (int o = 0; o < 20; o++) {
            x.claim(o, 1, 3);
            x.claim(o, 11, 4);
        }
        for (int i = 0; i < 10; i++) {
            x.propose(i % 5, 5 + i % 5);
            x.vote(i, 0, i % 2);
            x.vote(i, 11, 1);
        }
        return x;
    }

    private static void allRowsAreRestored(Edges e) {
        Twins.Make crowded = HistoryEdges::crowded;
        e.does(crowded, "passDays(3), claims are sold", x -> x.passDays(3), 0);
        e.does(crowded, "passDays(6), all are closed", x -> x.passDays(6), 20);
        for (int ends = 0; ends <= 1; ends++) {
            int offer = 19 * ends;
            int member = 1 + 10 * ends;
            int motion = 9 * ends;
            e.does(crowded, "claim of " + offer, x -> x.claim(offer, member, 9), 13 - member / 11);
            e.does(crowded, "withdraw " + offer, x -> x.withdraw(offer), 37 + offer);
            e.does(crowded, "vote on " + motion, x -> x.vote(motion, member, 0), 3 - ends);
            e.does(crowded, "close " + motion, x -> x.closeMotion(motion), 0);
            e.does(crowded, "issue to " + member, x -> x.issue(member, 9), 2075);
            e.does(crowded, "milk of " + member, x -> x.setMilk(member, 9), 1000000);
        }
    }

    private static Twins.Make undoneAfter(int calls, int undos) {
        return () -> {
            DairyShares x = after(calls).it();
            for (int i = 0; i < undos; i++) {
                x.undo();
            }
            return x;
        };
    }

    /** Twelve members, 10000 shares, twenty offers and ten motions: nothing more goes in. */
    private static DairyShares full() {
        DairyShares x = Check.register(12, 9989, 1, 1, 1, 1, 1, 1, 1, 1, 1, 1, 1);
        for (int o = 0; o < 20; o++) {
            x.offer(o < 18 ? 0 : o - 10, 11, 1, 100);
        }
        for (int i = 0; i < 10; i++) {
            x.propose(i % 5, 10);
        }
        return x;
    }

    private static void errorsChangeNothing(Edges e) {
        e.sentence("Errors", "A call that returns an error code changes nothing.");
        Twins.Make full = HistoryEdges::full;
        e.keeps(full, "join", DairyShares::join, Edges.FULL);
        e.keeps(full, "issue", x -> x.issue(3, 1), Edges.FULL);
        e.keeps(full, "offer", x -> x.offer(0, 1, 1, 100), Edges.FULL);
        e.keeps(full, "propose", x -> x.propose(0, 7), Edges.FULL);
        Twins.Make rich = Twins::rich;
        e.keeps(rich, "offer of too many", x -> x.offer(3, 0, 21, 90), Edges.ILLEGAL);
        e.keeps(rich, "offer for too little", x -> x.offer(3, 0, 20, 89), Edges.ILLEGAL);
        e.keeps(rich, "claim of a closed offer", x -> x.claim(0, 4, 1), Edges.ILLEGAL);
        e.keeps(rich, "claim of the seller", x -> x.claim(1, 0, 1), Edges.ILLEGAL);
        e.keeps(rich, "claim without need", x -> x.claim(2, 3, 1), Edges.ILLEGAL);
        e.keeps(rich, "withdraw", x -> x.withdraw(0), Edges.ILLEGAL);
        e.keeps(rich, "vote", x -> x.vote(1, 0, 1), Edges.ILLEGAL);
        e.keeps(rich, "closeMotion", x -> x.closeMotion(1), Edges.ILLEGAL);
        e.keeps(rich, "issue", x -> x.issue(4, 1001), Edges.INVALID);
        e.keeps(rich, "setMilk", x -> x.setMilk(4, -1), Edges.INVALID);
        e.keeps(rich, "setLitersPerShare", x -> x.setLitersPerShare(99), Edges.INVALID);
        e.keeps(rich, "setTreasuryLimit", x -> x.setTreasuryLimit(1001), Edges.INVALID);
        e.keeps(rich, "setBooks", x -> x.setBooks(0, -1), Edges.INVALID);
        e.keeps(rich, "addSurplus", x -> x.addSurplus(1000001), Edges.INVALID);
        e.keeps(rich, "passDays", x -> x.passDays(0), Edges.INVALID);
        e.keeps(rich, "setVoting", x -> x.setVoting(3, 101), Edges.INVALID);
        e.keeps(rich, "propose", x -> x.propose(2, 11), Edges.INVALID);
        e.keeps(rich, "daysLeft", x -> x.daysLeft(0), Check.NONE);
        DairyShares empty = new DairyShares();
        e.due("undo of nothing", empty.undo(), Edges.ILLEGAL);
        e.due("valuate of nothing", empty.valuate(), Edges.ILLEGAL);
        e.due("the history", empty.historySize(), 0);
        e.due("the next action is the first", empty.join(), 0);
        e.due("and undone", empty.undo(), 0);
    }

    private static void theFirstErrorIsReturned(Edges e) {
        e.sentence("Errors", "If several error conditions apply, the method returns the one that its description"
            + " lists first.");
        Twins.Make full = HistoryEdges::full;
        e.keeps(full, "issue: INVALID_ARGUMENT, CAPACITY_EXCEEDED", x -> x.issue(0, 1001), Edges.INVALID);
        e.keeps(full, "issue: INVALID_ARGUMENT, CAPACITY_EXCEEDED", x -> x.issue(12, 1), Edges.INVALID);
        e.keeps(full, "offer: all three", x -> x.offer(0, 0, 1000, 1), Edges.INVALID);
        e.keeps(full, "offer: all three", x -> x.offer(12, 0, 1, 100), Edges.INVALID);
        e.keeps(full, "offer: all three", x -> x.offer(0, 1, 1001, 99), Edges.INVALID);
        e.keeps(full, "offer: all three", x -> x.offer(1, 0, 2, 0), Edges.INVALID);
        e.keeps(full, "offer: free shares, CAPACITY_EXCEEDED", x -> x.offer(1, 0, 2, 100), Edges.ILLEGAL);
        e.keeps(full, "offer: par value, CAPACITY_EXCEEDED", x -> x.offer(1, 0, 1, 99), Edges.ILLEGAL);
        e.keeps(full, "offer: CAPACITY_EXCEEDED alone", x -> x.offer(1, 0, 1, 100), Edges.FULL);
        e.keeps(full, "propose: INVALID_ARGUMENT, CAPACITY_EXCEEDED", x -> x.propose(0, 0), Edges.INVALID);
        e.keeps(full, "propose: INVALID_ARGUMENT, CAPACITY_EXCEEDED", x -> x.propose(5, 7), Edges.INVALID);
        Twins.Make rich = Twins::rich;
        e.keeps(rich, "claim: count, closed", x -> x.claim(0, 4, 0), Edges.INVALID);
        e.keeps(rich, "claim: member, closed", x -> x.claim(0, 5, 1), Edges.INVALID);
        e.keeps(rich, "claim: count, seller", x -> x.claim(1, 0, 1001), Edges.INVALID);
        e.keeps(rich, "claim: count, no need", x -> x.claim(2, 3, 0), Edges.INVALID);
        e.keeps(rich, "vote: member, closed", x -> x.vote(0, 5, 1), Edges.INVALID);
        e.keeps(rich, "vote: yes, closed", x -> x.vote(0, 0, 2), Edges.INVALID);
        e.keeps(rich, "offer: count, free shares", x -> x.offer(4, 0, 1001, 100), Edges.INVALID);
        e.keeps(rich, "offer: seller is buyer, free shares", x -> x.offer(4, 4, 1, 100), Edges.INVALID);
        e.keeps(rich, "offer: offered, free shares", x -> x.offer(4, 0, 1, 100001), Edges.INVALID);
    }

    private static void constants(Edges e) {
        e.sentence("Errors", "The constants: `INVALID_ARGUMENT = -2000000001`: An argument is out of range,"
            + " or names something that does not exist.");
        e.due("INVALID_ARGUMENT", DairyShares.INVALID_ARGUMENT, -2000000001);
        e.due("out of range", new DairyShares().passDays(0), DairyShares.INVALID_ARGUMENT);
        e.due("does not exist", new DairyShares().account(0), DairyShares.INVALID_ARGUMENT);
        e.sentence("Errors", "`ILLEGAL_STATE = -2000000002`: The call is not possible in the present state.");
        e.due("ILLEGAL_STATE", DairyShares.ILLEGAL_STATE, -2000000002);
        e.due("not possible", new DairyShares().undo(), DairyShares.ILLEGAL_STATE);
        e.sentence("Errors", "`CAPACITY_EXCEEDED = -2000000003`: There is no room.");
        e.due("CAPACITY_EXCEEDED", DairyShares.CAPACITY_EXCEEDED, -2000000003);
        e.due("no room", Check.register(12).join(), DairyShares.CAPACITY_EXCEEDED);
        e.sentence("Errors", "`NONE = -2000000004`: There is no such value.");
        e.due("NONE", DairyShares.NONE, -2000000004);
        e.due("no such value", OffersEdges.inStage(3, 40).daysLeft(0), DairyShares.NONE);
        e.nothingToTest("Errors", "Ahead of the calls `join`, `issue`, `setMilk`, `setLitersPerShare`,"
            + " `setTreasuryLimit`, `memberCount`, `shares`, `account`, `requirement`, `freeShares`, `room`,"
            + " `allShares`, `treasury` the interface says: ---- members and shares.");
        e.nothingToTest("Errors", "Ahead of the calls `setBooks`, `addSurplus`, `valuate`, `price`, `parValue`"
            + " the interface says: ---- price.");
        e.nothingToTest("Errors", "Ahead of the calls `offer`, `claim`, `withdraw`, `passDays`, `offerCount`, `stage`,"
            + " `remaining`, `daysLeft`, `sold`, `claimOf` the interface says: ---- offers.");
        e.nothingToTest("Errors", "Ahead of the calls `setVoting`, `propose`, `vote`, `closeMotion`, `votes`,"
            + " `motionState`, `votesFor` the interface says: ---- motions.");
        e.nothingToTest("Errors", "Ahead of the calls `day`, `historySize`, `undo` the interface says: ---- history.");
    }

    private static void promise37(Edges e) {
        e.sentence("Promise 37", "`int day()`: Returns the number of days that have passed.");
        e.keeps(DairyShares::new, "at first", DairyShares::day, 0);
        for (int days : new int[] {1, 2, 59, 60}) {
            e.keeps(() -> {
                DairyShares x = new DairyShares();
                x.passDays(days);
                return x;
            }, "after " + days, DairyShares::day, days);
        }
        e.keeps(Twins::rich, "6 and 2", DairyShares::day, 8);
        DairyShares y = new DairyShares();
        y.passDays(60);
        y.passDays(1);
        e.due("60 and 1", y.day(), 61);
        y.passDays(0);
        y.passDays(61);
        e.due("refused days", y.day(), 61);
        y.undo();
        e.due("undone", y.day(), 60);
        y.undo();
        e.due("undone", y.day(), 0);
    }

    private static void promise38(Edges e) {
        e.sentence("Promise 38", "`int historySize()`: Returns the number of states in the history.");
        for (int calls = 0; calls <= 6; calls++) {
            e.keeps(after(calls), "after " + calls, DairyShares::historySize, Math.min(calls, 4));
        }
        DairyShares x = after(6).it();
        for (int left = 3; left >= 0; left--) {
            x.undo();
            e.due("after an undo", x.historySize(), left);
        }
        x.undo();
        e.due("after a refused undo", x.historySize(), 0);
        x.join();
        e.due("after another action", x.historySize(), 1);
        x.issue(0, 0);
        e.due("after a refused action", x.historySize(), 1);
        x.memberCount();
        e.due("after a query", x.historySize(), 1);
    }

    private static void promise39(Edges e) {
        e.sentence("Promise 39", "`int undo()`: Removes the latest state from the history and restores it.");
        DairyShares x = Check.register(1, 5);
        x.issue(0, 6);
        x.issue(0, 7);
        int[] shares = {18, 11, 5, 0};
        for (int undos = 0; undos < 4; undos++) {
            e.due("shares after " + undos, x.shares(0), shares[undos]);
            e.due("account after " + undos, x.account(0), -100L * shares[undos]);
            x.undo();
        }
        e.due("no member", x.memberCount(), 0);
        e.due("its shares", x.shares(0), Edges.INVALID);
        e.sentence("Promise 39", "Returns the number of states that are left in the history;");
        for (int calls = 1; calls <= 6; calls++) {
            e.due("after " + calls, after(calls).it().undo(), Math.min(calls, 4) - 1);
        }
        DairyShares y = after(9).it();
        for (int left = 3; left >= 0; left--) {
            e.due("one after another", y.undo(), left);
        }
        e.due("undo is no action", y.undo(), Edges.ILLEGAL);
        e.sentence("Promise 39", "ILLEGAL_STATE if it is empty.");
        e.keeps(DairyShares::new, "of a new object", DairyShares::undo, Edges.ILLEGAL);
        for (int calls = 1; calls <= 6; calls++) {
            e.keeps(undoneAfter(calls, Math.min(calls, 4)), "all undone of " + calls, DairyShares::undo, Edges.ILLEGAL);
            e.due("one is left of " + calls, undoneAfter(calls, Math.min(calls, 4) - 1).it().undo(), 0);
        }
    }
}
