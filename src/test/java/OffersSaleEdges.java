/** The edges of what is sold at the end of a stage: demands, their division, payment, and the rest. */
final class OffersSaleEdges {
    private static final String TERMS = "Offers";

    private OffersSaleEdges() {
    }

    static void run(Edges e) {
        demandIsAtMostTheRoom(e);
        roomAtThisMoment(e);
        withoutDemandNothing(e);
        demandsThatFit(e);
        demandsThatAreDivided(e);
        dividedAmongTwelve(e);
        paidAtThePrice(e);
        treasuryTakesToItsLimit(e);
        treasuryAtItsLimit(e);
        buyerTakesToItsRoom(e);
        theRestIsTheSellers(e);
        nextStageWithoutClaims(e);
        soldOutIsClosed(e);
        openSharesAreTheSellers(e);
    }

    /** Members with 90, 10, 0 and 0 shares: the limit is 25, and the rooms are 0, 15, 25 and 25. */
    private static DairyShares rooms(int stage, int count) {
        DairyShares x = Check.register(4, 90, 10);
        x.offer(0, 2, count, 100);
        if (stage == 0) {
            x.setMilk(1, 11000);
            x.setMilk(2, 1);
            x.setMilk(3, 1);
        } else {
            x.passDays(3);
        }
        return x;
    }

    private static void demandIsAtMostTheRoom(Edges e) {
        e.sentence(TERMS, "When the stage 0 or 1 ends, let the demand of each claimant"
            + " (whether it could still claim or not) be its claim, but at most its room at this moment;");
        int[][] rows = {{1, 1}, {14, 14}, {15, 15}, {16, 15}, {40, 15}, {1000, 15}};
        for (int stage = 0; stage <= 1; stage++) {
            for (int[] row : rows) {
                DairyShares x = rooms(stage, 40);
                x.claim(0, 1, row[0]);
                x.passDays(3);
                e.due(row[0] + " in the stage " + stage, x.sold(0, stage), row[1]);
                e.due("shares", x.shares(1), 10 + row[1]);
                e.due("remaining", x.remaining(0), 40 - row[1]);
            }
        }
        for (int milk : new int[] {11000, 10001, 10000, 0}) {
            DairyShares x = rooms(0, 40);
            x.claim(0, 1, 12);
            x.setMilk(1, milk);
            e.due("could still claim with " + milk, x.claim(0, 1, 12), milk > 10000 ? 12 : Edges.ILLEGAL);
            x.passDays(3);
            e.due("its demand counts with " + milk, x.sold(0, 0), 12);
        }
        DairyShares both = rooms(1, 40);
        both.claim(0, 1, 1000);
        both.claim(0, 3, 26);
        both.passDays(3);
        e.due("each has its own room: 15", both.shares(1), 25);
        e.due("each has its own room: 25", both.shares(3), 25);
        e.due("15 and 25 of 40", both.remaining(0), 0);
    }

    private static void roomAtThisMoment(Edges e) {
        DairyShares fewer = rooms(1, 40);
        fewer.claim(0, 1, 15);
        fewer.issue(1, 1);
        fewer.passDays(3);
        e.due("a share more, a room of 14", fewer.sold(0, 1), 14);
        DairyShares more = rooms(1, 40);
        more.claim(0, 1, 16);
        more.issue(0, 3);
        more.passDays(3);
        e.due("103 shares, a room of 15", more.sold(0, 1), 15);
        DairyShares next = rooms(1, 40);
        next.claim(0, 1, 17);
        next.issue(0, 4);
        next.passDays(3);
        e.due("104 shares, a room of 16", next.sold(0, 1), 16);
        int[][] caps = {{9, 0}, {10, 0}, {11, 1}, {26, 16}, {27, 17}, {28, 17}, {100, 17}};
        for (int[] row : caps) {
            DairyShares x = rooms(1, 40);
            x.claim(0, 1, 17);
            Check.pass(x, 1, row[0], 2);
            x.passDays(3);
            e.due("a cap of " + row[0], x.sold(0, 1), row[1]);
        }
    }

    private static void withoutDemandNothing(Edges e) {
        e.sentence(TERMS, "claimants whose demand is 0 get nothing.");
        for (int stage = 0; stage <= 1; stage++) {
            DairyShares x = Check.register(4, 76, 24);
            x.offer(0, 2, 9, 100);
            x.setMilk(1, 1000000);
            x.passDays(3 * stage);
            x.claim(0, 1, 5);
            x.issue(0, 4);
            x.issue(1, 2);
            e.due("no room", x.room(1), 0);
            long account = x.account(1);
            x.passDays(3);
            e.due("nothing", x.shares(1), 26);
            e.due("nothing is paid", x.account(1), account);
            e.due("nothing is sold", x.remaining(0), 9);
            e.due("the next stage", x.stage(0), stage + 1);
        }
        // limit 21: member 1 has no room; the one share that is left over goes past it
        DairyShares y = Check.register(4, 60, 25);
        y.offer(0, 2, 1, 100);
        y.passDays(3);
        y.claim(0, 1, 5);
        y.claim(0, 2, 5);
        y.claim(0, 3, 5);
        y.passDays(3);
        e.due("without room", y.shares(1), 25);
        e.due("the smaller number of those with a demand", y.shares(2), 1);
        e.due("the other one", y.shares(3), 0);
    }

    private static void demandsThatFit(Edges e) {
        e.sentence(TERMS, "If the demands together are at most what remains, each claimant gets its demand.");
        int[][] rows = {{5, 4, 5, 4, 1}, {5, 5, 5, 5, 0}, {5, 6, 5, 5, 0}, {1, 1, 1, 1, 8}, {9, 1, 9, 1, 0},
            {1, 9, 1, 9, 0}, {8, 1, 8, 1, 1}, {10, 0, 10, 0, 0}, {9, 0, 9, 0, 1}, {11, 0, 10, 0, 0}};
        for (int stage = 0; stage <= 1; stage++) {
            for (int[] row : rows) {
                DairyShares x = stage == 0 ? OffersEdges.needy(10) : OffersEdges.inStage(1, 10);
                x.claim(0, 2, row[0]);
                x.claim(0, 3, row[1]);
                String run = row[0] + " and " + row[1] + " of 10";
                e.due(run + ", closed", x.passDays(3), row[4] == 0 ? 1 : 0);
                e.due(run + ", the one", x.shares(2), row[2]);
                e.due(run + ", the other", x.shares(3), row[3]);
                e.due(run + ", remaining", x.remaining(0), row[4]);
            }
        }
    }

    private static void demandsThatAreDivided(Edges e) {
        e.sentence(TERMS, "Otherwise each gets what remains times its demand divided by all demands together,"
            + " and what is left over then goes one by one to the claimants with the greatest remainders of these"
            + " divisions, of equal ones to that with the smaller number first.");
        // nothing, one, and all but one of the claimants' number is left over
        divide(e, 10, new int[] {10, 10, 0}, new int[] {5, 5, 0});
        divide(e, 11, new int[] {10, 10, 0}, new int[] {6, 5, 0});
        divide(e, 2, new int[] {1, 1, 1}, new int[] {1, 1, 0});
        divide(e, 1, new int[] {1, 1, 1}, new int[] {1, 0, 0});
        divide(e, 4, new int[] {2, 2, 2}, new int[] {2, 1, 1});
        divide(e, 5, new int[] {2, 2, 2}, new int[] {2, 2, 1});
        // 1 / 3 and 2 / 3: the greater remainder goes ahead of the smaller number
        divide(e, 1, new int[] {1, 2, 0}, new int[] {0, 1, 0});
        divide(e, 1, new int[] {0, 1, 2}, new int[] {0, 0, 1});
        // remainders 6, 4 and 2 of 12
        divide(e, 10, new int[] {3, 4, 5}, new int[] {3, 3, 4});
        // remainders 2, 4 and 4 of 5
        divide(e, 1, new int[] {1, 2, 2}, new int[] {0, 1, 0});
        divide(e, 2, new int[] {1, 2, 2}, new int[] {0, 1, 1});
        // all three remainders are equal: 4, 4 and 4 of 12, and 10, 10 and 10 of 15
        divide(e, 4, new int[] {4, 1, 7}, new int[] {2, 0, 2});
        divide(e, 4, new int[] {4, 7, 1}, new int[] {2, 2, 0});
        divide(e, 5, new int[] {2, 8, 5}, new int[] {1, 3, 1});
        // remainders 9, 8 and 11 of 14
        divide(e, 9, new int[] {1, 4, 9}, new int[] {1, 2, 6});
        // remainders 2, 0 and 4 of 6: a remainder of 0 gets none
        divide(e, 4, new int[] {2, 3, 1}, new int[] {1, 2, 1});
        // one share fewer than all demands
        divide(e, 5, new int[] {1, 2, 3}, new int[] {1, 2, 2});
        divide(e, 749, new int[] {250, 250, 250}, new int[] {250, 250, 249});
        divide(e, 750, new int[] {250, 250, 250}, new int[] {250, 250, 250});
        // 999 and 1: the rooms of 250 cut the demand; 200 * 250 / 251 = 199 and 51 left, 0 and 200 left
        divide(e, 200, new int[] {999, 1, 0}, new int[] {199, 1, 0});
        DairyShares x = rooms(1, 20);
        x.claim(0, 1, 1000);
        x.claim(0, 3, 15);
        x.passDays(3);
        e.due("by demands, not by claims", x.shares(1), 20);
        e.due("by demands, not by claims", x.shares(3), 10);
    }

    /** Members 1 to 3 claim so many of so many shares, in each of the two stages. */
    private static void divide(Edges e, int count, int[] claims, int[] parts) {
        for (int stage = 0; stage <= 1; stage++) {
            DairyShares x = stage == 0 ? OffersEdges.needy(count) : OffersEdges.inStage(1, count);
            for (int m = 3; m >= 1; m--) {
                if (claims[m - 1] > 0) {
                    x.claim(0, m, claims[m - 1]);
                }
            }
            e.due("all are sold", x.passDays(3), 1);
            for (int m = 1; m <= 3; m++) {
                String run = claims[m - 1] + " in " + count + " for member " + m;
                e.due(run, x.shares(m), parts[m - 1]);
                e.due(run + ", paid", x.account(m), -100L * parts[m - 1]);
            }
            e.due("sold", x.sold(0, stage), count);
            e.due("the seller", x.shares(0), 1000 - count);
        }
    }

    /** Eleven claim, the seller sits between them; so many shares that so many numbers get one more. */
    private static void dividedAmongTwelve(Edges e) {
        for (int count = 1; count <= 23; count++) {
            DairyShares x = Check.register(12, 0, 0, 0, 0, 0, 1000);
            x.offer(5, 0, count, 100);
            x.passDays(3);
            for (int m = 0; m < 12; m++) {
                x.claim(0, m, 2);
            }
            x.passDays(3);
            for (int m = 0; m < 12; m++) {
                int place = m < 5 ? m : m - 1;
                int due = count >= 22 ? 2 : count / 11 + (place < count % 11 ? 1 : 0);
                e.due(count + " for member " + m, x.shares(m), m == 5 ? 1000 - Math.min(count, 22) : due);
            }
        }
    }

    private static void paidAtThePrice(Edges e) {
        e.sentence(TERMS, "For each share the claimant pays the price (its account becomes less by it),"
            + " and the seller gets it.");
        for (int stage = 0; stage <= 1; stage++) {
            for (int count : new int[] {1, 2, 250}) {
                DairyShares x = stage == 0 ? OffersEdges.needy(500) : OffersEdges.inStage(1, 500);
                x.claim(0, 2, count);
                x.setBooks(500000, 0);
                e.due("the price when the stage ends", x.valuate(), 300);
                x.passDays(3);
                e.due("paid for " + count, x.account(2), -300L * count);
                e.due("got for " + count, x.account(0), -100000 + 300L * count);
                e.due("nobody else pays", x.account(3), 0);
                e.due("the buyer pays nothing", x.account(1), 0);
            }
        }
        DairyShares dear = OffersEdges.inStage(1, 250);
        dear.claim(0, 2, 250);
        dear.setBooks(100000000, 0);
        dear.addSurplus(1000000);
        e.due("dear", dear.valuate(), 64000);
        dear.passDays(3);
        e.due("16 millions", dear.account(2), -16000000);
        DairyShares dearest = dearest(500);
        dearest.passDays(3);
        dearest.claim(0, 2, 250);
        dearest.passDays(3);
        e.due("beyond an int, paid", dearest.account(2), -250 * 64000000L);
        e.due("beyond an int, got", dearest.account(0), -100 - (999 - 250) * 64000000L);
        DairyShares two = OffersEdges.inStage(1, 3);
        two.claim(0, 2, 3);
        two.claim(0, 3, 3);
        two.passDays(3);
        e.due("two pay", two.account(2), -200);
        e.due("and one", two.account(3), -100);
        e.due("the seller gets three", two.account(0), -100000 + 300);
    }

    private static void treasuryTakesToItsLimit(Edges e) {
        e.sentence(TERMS, "When the stage 2 ends, the treasury gets as many of the shares that remain as the"
            + " treasury limit (0 to 1000; 50 at first) allows (the limit less the treasury shares, if this is"
            + " above 0), and the seller gets the price for each;");
        int[][] atFirst = {{1, 1}, {49, 49}, {50, 50}, {51, 50}, {1000, 50}};
        for (int[] row : atFirst) {
            DairyShares x = OffersEdges.inStage(2, row[0]);
            x.passDays(2);
            e.due("not before", x.treasury(), 0);
            x.passDays(1);
            e.due("at first, of " + row[0], x.treasury(), row[1]);
            e.due("at first, of " + row[0], x.sold(0, 2), row[1]);
        }
        int[][] rows = {{0, 1, 0}, {1, 1, 1}, {1, 2, 1}, {2, 1, 1}, {999, 1000, 999}, {1000, 1000, 1000},
            {1000, 999, 999}};
        for (int[] row : rows) {
            DairyShares x = OffersEdges.inStage(2, row[1]);
            x.setTreasuryLimit(row[0]);
            x.setBooks(400000, 0);
            e.due("price", x.valuate(), 240);
            x.passDays(3);
            e.due("limit " + row[0] + ", of " + row[1], x.sold(0, 2), row[2]);
            int bought = Math.min(row[1] - row[2], 250);
            e.due("the seller gets the price", x.account(0), -100000 + 240L * row[2] + 100L * bought);
            e.due("the seller's shares", x.shares(0), 1000 - row[2] - bought);
        }
        DairyShares dearest = dearest(50);
        dearest.passDays(9);
        e.due("beyond an int, got", dearest.account(0), -100 - (999 - 50) * 64000000L);
    }

    /** The greatest price, found when there was one share; then there are 1000, so many of them offered. */
    private static DairyShares dearest(int count) {
        DairyShares x = Check.register(4, 1);
        x.setBooks(100000000, 0);
        x.addSurplus(1000000);
        x.valuate();
        x.issue(0, 999);
        x.offer(0, 1, count, 100000);
        return x;
    }

    /** The treasury has 50 already when an offer of ten comes to the end of the stage 2. */
    private static void treasuryAtItsLimit(Edges e) {
        int[][] rows = {{0, 0}, {49, 0}, {50, 0}, {51, 1}, {52, 2}, {59, 9}, {60, 10}, {61, 10}, {1000, 10}};
        for (int[] row : rows) {
            DairyShares x = OffersEdges.inStage(3, 50);
            x.setTreasuryLimit(row[0]);
            x.offer(0, 1, 10, 100);
            x.passDays(9);
            e.due("limit " + row[0] + ", 50 before", x.sold(1, 2), row[1]);
            e.due("treasury", x.treasury(), 50 + row[1]);
            e.due("the buyer gets the others", x.sold(1, 3), 10 - row[1]);
        }
        DairyShares y = OffersEdges.inStage(3, 50);
        Check.pass(y, 3, 1, 1);
        y.offer(0, 1, 10, 100);
        y.passDays(9);
        e.due("one retired, one bought", y.sold(1, 2), 1);
    }

    private static void buyerTakesToItsRoom(Edges e) {
        e.sentence(TERMS, "then the buyer gets as many of those that remain as its room allows,"
            + " and pays the offered price for each to the seller;");
        // the rooms are 15 and 25; the treasury takes none
        int[][] rows = {{1, 1, 1}, {1, 14, 14}, {1, 15, 15}, {1, 16, 15}, {2, 24, 24}, {2, 25, 25}, {2, 26, 25},
            {2, 90, 25}};
        for (int[] row : rows) {
            for (int offered : new int[] {100, 101, 100000}) {
                DairyShares x = Check.register(4, 90, 10);
                x.setTreasuryLimit(0);
                x.offer(0, row[0], row[1], offered);
                x.setBooks(40000, 0);
                e.due("another price", x.valuate(), 240);
                long before = x.account(row[0]);
                x.passDays(9);
                e.due("member " + row[0] + " of " + row[1], x.sold(0, 3), row[2]);
                e.due("pays the offered price", x.account(row[0]) - before, (long) -offered * row[2]);
                e.due("to the seller", x.account(0), -9000 + (long) offered * row[2]);
                e.due("the rest", x.remaining(0), row[1] - row[2]);
            }
        }
        int[][] full = {{76, 24, 1}, {75, 25, 0}, {74, 26, 0}};
        for (int[] row : full) {
            DairyShares x = Check.register(2, row[0], row[1]);
            x.setTreasuryLimit(0);
            x.offer(0, 1, 9, 100);
            x.passDays(9);
            e.due("with " + row[1] + " of a limit of 25", x.sold(0, 3), row[2]);
        }
        DairyShares first = rooms(1, 40);
        first.setTreasuryLimit(39);
        first.passDays(6);
        e.due("the treasury goes ahead", first.sold(0, 2), 39);
        e.due("the buyer gets the last one", first.sold(0, 3), 1);
        DairyShares none = rooms(1, 40);
        none.setTreasuryLimit(40);
        none.passDays(6);
        e.due("none is left for the buyer", none.sold(0, 3), 0);
    }

    private static void theRestIsTheSellers(Edges e) {
        e.sentence(TERMS, "then the offer is closed, and what remains goes on belonging to the seller.");
        int[][] rows = {{39, 0}, {40, 0}, {41, 1}, {90, 50}};
        for (int[] row : rows) {
            DairyShares x = Check.register(4, 90, 10);
            x.setTreasuryLimit(15);
            x.offer(0, 2, row[0], 100);
            x.passDays(8);
            e.due("open on the last day", x.stage(0), 2);
            e.due("closed", x.passDays(1), 1);
            e.due("stage", x.stage(0), 3);
            e.due("the rest of " + row[0], x.remaining(0), row[1]);
            e.due("the seller's", x.shares(0), 90 - Math.min(row[0], 40));
            e.due("free to be offered again", x.freeShares(0), 90 - Math.min(row[0], 40));
        }
    }

    private static void nextStageWithoutClaims(Edges e) {
        e.sentence(TERMS, "Otherwise the next stage begins, without claims.");
        for (int stage = 0; stage <= 1; stage++) {
            for (int count : new int[] {1, 2, 3}) {
                DairyShares x = stage == 0 ? OffersEdges.needy(3) : OffersEdges.inStage(1, 3);
                x.claim(0, 2, count);
                x.passDays(3);
                e.due(count + " of 3, stage", x.stage(0), count == 3 ? 3 : stage + 1);
                e.due("days left", x.daysLeft(0), count == 3 ? Check.NONE : 3);
                e.due("claim", x.claimOf(0, 2), 0);
                x.passDays(3);
                e.due("sold once", x.sold(0, stage), count);
                e.due("nothing in the next stage", x.sold(0, stage + 1), stage == 0 || count == 3 ? 0 : 3 - count);
            }
        }
        DairyShares ends = Check.register(12, 0, 1000);
        ends.setMilk(0, 1000000);
        ends.setMilk(11, 1000000);
        ends.offer(1, 0, 500, 100);
        for (int stage = 1; stage <= 2; stage++) {
            ends.claim(0, 0, 3);
            ends.claim(0, 11, 3);
            ends.passDays(3);
            e.due("the first member's claim is gone", ends.claimOf(0, 0), 0);
            e.due("the last member's claim is gone", ends.claimOf(0, 11), 0);
            e.due("the first member has", ends.shares(0), 3 * stage);
            e.due("the last member has", ends.shares(11), 3 * stage);
        }
        DairyShares none = OffersEdges.inStage(0, 3);
        e.due("without any claim", none.passDays(3), 0);
        e.due("the stage 1", none.stage(0), 1);
        e.due("without any claim", none.passDays(3), 0);
        e.due("the stage 2", none.stage(0), 2);
    }

    private static void soldOutIsClosed(Edges e) {
        e.sentence(TERMS, "An offer of which nothing remains is closed at the end of the stage in which"
            + " its last share was sold.");
        for (int stage = 0; stage <= 1; stage++) {
            for (int count : new int[] {39, 40, 41}) {
                DairyShares x = stage == 0 ? OffersEdges.needy(40) : OffersEdges.inStage(1, 40);
                x.claim(0, 2, count);
                e.due("two days", x.passDays(2), 0);
                e.due("not sold before the end", x.remaining(0), 40);
                e.due("claim of " + count + ", closed", x.passDays(1), count < 40 ? 0 : 1);
                e.due("stage", x.stage(0), count < 40 ? stage + 1 : 3);
                e.due("remaining", x.remaining(0), count < 40 ? 1 : 0);
                e.due("nothing more to the treasury", x.passDays(9) + x.treasury(), count < 40 ? 2 : 0);
            }
        }
        for (int count : new int[] {299, 300, 301}) {
            DairyShares x = OffersEdges.inStage(2, count);
            e.due("two days", x.passDays(2), 0);
            e.due("the end of the stage 2", x.passDays(1), 1);
            e.due("what remains of " + count, x.remaining(0), Math.max(count - 300, 0));
        }
    }

    private static void openSharesAreTheSellers(Edges e) {
        e.sentence(TERMS, "While an offer is open, its shares belong to the seller.");
        DairyShares x = Check.register(3, 30, 10);
        x.setVoting(1, 50);
        x.offer(0, 1, 30, 100);
        for (int day = 0; day < 9; day++) {
            e.due("shares on day " + day, x.shares(0), 30);
            e.due("votes on day " + day, x.votes(0), 30);
            e.due("none is free on day " + day, x.freeShares(0), 0);
            e.due("the buyer's on day " + day, x.shares(1), 10);
            e.due("all shares on day " + day, x.allShares(), 40);
            x.passDays(1);
        }
        e.due("the treasury took them", x.shares(0), 0);
        DairyShares y = Check.register(3, 30, 10);
        y.offer(0, 1, 30, 100);
        Check.pass(y, 4, 100, 2);
        e.due("the seller gets for them what a motion gives", y.account(0), 0);
        y.setMilk(0, 30001);
        e.due("in need by one only", y.requirement(0) - y.shares(0), 1);
        e.due("no room by them", y.room(0), 0);
    }
}
