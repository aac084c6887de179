/** Promises 20 to 29: offers, claims and the passing of days. */
public final class OffersTest {
    private static final Check c = new Check("OffersTest");

    public static void main(String[] args) {
        promise20Offer();
        promise21Claim();
        promise22Withdraw();
        promise23PassDays();
        sharesAreDividedByDemand();
        leftoversGoToTheGreatestRemainders();
        demandIsReadAtTheEnd();
        twoOffersInOrder();
        twelveMembersClaim();
        promise23Cooperative();
        promise24To29Queries();
        c.end();
    }

    private static void promise20Offer() {
        DairyShares x = Check.register(3, 2000, 5);
        int kept = x.historySize();
        c.due("20 seller -1", x.offer(-1, 1, 1, 100), Check.INVALID);
        c.due("20 seller 3", x.offer(3, 1, 1, 100), Check.INVALID);
        c.due("20 buyer -1", x.offer(0, -1, 1, 100), Check.INVALID);
        c.due("20 buyer 3", x.offer(0, 3, 1, 100), Check.INVALID);
        c.due("20 same", x.offer(0, 0, 1, 100), Check.INVALID);
        c.due("20 count 0", x.offer(0, 1, 0, 100), Check.INVALID);
        c.due("20 count 1001", x.offer(0, 1, 1001, 100), Check.INVALID);
        c.due("20 offered 0", x.offer(0, 1, 1, 0), Check.INVALID);
        c.due("20 offered 100001", x.offer(0, 1, 1, 100001), Check.INVALID);
        c.due("20 invalid ahead of illegal", x.offer(2, 1, 1, 100001), Check.INVALID);
        c.due("20 no free shares", x.offer(2, 1, 1, 100), Check.ILLEGAL);
        c.due("20 more than free", x.offer(1, 0, 6, 100), Check.ILLEGAL);
        c.due("20 below par", x.offer(1, 0, 5, 99), Check.ILLEGAL);
        c.due("20 nothing recorded", x.historySize(), kept);
        c.due("20 all free ones, at par", x.offer(1, 0, 5, 100), 0);
        c.due("20 the shares stay the seller's", x.shares(1), 5);
        c.due("20 none free now", x.offer(1, 0, 1, 100), Check.ILLEGAL);
        c.due("20 greatest", x.offer(0, 1, 1000, 100000), 1);
        c.due("20 stage", x.stage(1), 0);
        c.due("20 remaining", x.remaining(1), 1000);
        c.due("20 days left", x.daysLeft(1), 3);
        parIsAsked();
        twentyOffers();
    }

    private static void parIsAsked() {
        DairyShares x = Check.register(2, 100);
        Check.pass(x, 0, 300, 1);
        c.due("20 below the new par", x.offer(0, 1, 1, 299), Check.ILLEGAL);
        c.due("20 at the new par", x.offer(0, 1, 1, 300), 0);
        x.setBooks(100000, 0);
        x.valuate();
        c.due("20 the price is not asked", x.offer(0, 1, 1, 300), 1);
        Check.pass(x, 0, 1, 1);
        c.due("20 offered 1", x.offer(0, 1, 1, 1), 2);
    }

    private static void twentyOffers() {
        DairyShares x = Check.register(2, 100);
        for (int o = 0; o < 20; o++) {
            c.due("20 number", x.offer(0, 1, 1, 100), o);
            if (o % 2 == 0) {
                x.withdraw(o);
            }
        }
        c.due("20 closed ones count", x.offer(0, 1, 1, 100), Check.FULL);
        c.due("20 illegal ahead of full", x.offer(0, 1, 91, 100), Check.ILLEGAL);
        c.due("20 illegal ahead of full", x.offer(0, 1, 1, 99), Check.ILLEGAL);
        c.due("20 invalid ahead of full", x.offer(0, 1, 0, 100), Check.INVALID);
        c.due("20 twenty stay", x.offerCount(), 20);
        c.due("20 the last one", x.remaining(19), 1);
    }

    private static void promise21Claim() {
        DairyShares x = Check.register(4, 100, 3, 3, 50);
        x.setMilk(1, 4000);
        x.setMilk(2, 3000);
        x.setMilk(3, 60000);
        x.offer(0, 3, 40, 100);
        int kept = x.historySize();
        c.due("21 offer -1", x.claim(-1, 1, 1), Check.INVALID);
        c.due("21 offer 1", x.claim(1, 1, 1), Check.INVALID);
        c.due("21 member -1", x.claim(0, -1, 1), Check.INVALID);
        c.due("21 member 4", x.claim(0, 4, 1), Check.INVALID);
        c.due("21 count 0", x.claim(0, 1, 0), Check.INVALID);
        c.due("21 count 1001", x.claim(0, 1, 1001), Check.INVALID);
        c.due("21 invalid ahead of illegal", x.claim(0, 0, 0), Check.INVALID);
        c.due("21 the seller", x.claim(0, 0, 1), Check.ILLEGAL);
        c.due("21 as many as required", x.claim(0, 2, 1), Check.ILLEGAL);
        c.due("21 recorded", x.historySize(), kept);
        c.due("21 fewer than required", x.claim(0, 1, 7), 7);
        c.due("21 a later one in its place", x.claim(0, 1, 1000), 1000);
        c.due("21 smaller again", x.claim(0, 1, 1), 1);
        c.due("21 the buyer, needy", x.claim(0, 3, 10), 11);
        x.passDays(3);
        c.due("21 stage 1", x.stage(0), 1);
        c.due("21 claims are gone", x.claimOf(0, 3), 0);
        c.due("21 the seller in stage 1", x.claim(0, 0, 1), Check.ILLEGAL);
        c.due("21 all in stage 1", x.claim(0, 2, 5), 5);
        c.due("21 the buyer in stage 1", x.claim(0, 3, 4), 9);
        x.passDays(3);
        c.due("21 stage 2", x.stage(0), 2);
        c.due("21 not in stage 2", x.claim(0, 1, 1), Check.ILLEGAL);
        c.due("21 invalid ahead of the stage", x.claim(0, 1, 0), Check.INVALID);
        x.passDays(3);
        c.due("21 not when closed", x.claim(0, 1, 1), Check.ILLEGAL);
        needySellerCannotClaim();
    }

    private static void needySellerCannotClaim() {
        DairyShares x = Check.register(2, 10, 10);
        x.offer(0, 1, 5, 100);
        x.setMilk(0, 50000);
        c.due("21 a needy seller", x.claim(0, 0, 1), Check.ILLEGAL);
        x.setMilk(1, 10001);
        c.due("21 needy by one share", x.claim(0, 1, 1), 1);
        x.setMilk(1, 10000);
        c.due("21 needy no more", x.claim(0, 1, 2), Check.ILLEGAL);
        c.due("21 the claim stands", x.claimOf(0, 1), 1);
    }

    private static void promise22Withdraw() {
        DairyShares x = Check.register(4, 100, 0, 10);
        x.setMilk(1, 5000);
        c.due("22 offer 0", x.withdraw(0), Check.INVALID);
        x.offer(0, 2, 40, 100);
        x.claim(0, 1, 3);
        c.due("22 offer 1", x.withdraw(1), Check.INVALID);
        c.due("22 offer -1", x.withdraw(-1), Check.INVALID);
        x.passDays(3);
        x.claim(0, 1, 2);
        c.due("22 what remained", x.withdraw(0), 37);
        c.due("22 closed", x.stage(0), 3);
        c.due("22 remaining", x.remaining(0), 37);
        c.due("22 no claim", x.claimOf(0, 1), 0);
        c.due("22 no days", x.daysLeft(0), Check.NONE);
        c.due("22 the seller's", x.shares(0), 97);
        c.due("22 free again", x.freeShares(0), 97);
        c.due("22 twice", x.withdraw(0), Check.ILLEGAL);
        c.due("22 not closed by days", x.passDays(60), 0);
        c.due("22 nothing sold later", x.shares(0), 97);
        c.due("22 undo", x.undo(), 3);
        c.due("22 undo", x.undo(), 2);
        c.due("22 open again", x.stage(0), 1);
        c.due("22 the claim again", x.claimOf(0, 1), 2);
    }

    private static void promise23PassDays() {
        DairyShares x = Check.register(2, 100);
        c.due("23 days 0", x.passDays(0), Check.INVALID);
        c.due("23 days 61", x.passDays(61), Check.INVALID);
        c.due("23 days -1", x.passDays(-1), Check.INVALID);
        c.due("23 no day", x.day(), 0);
        x.offer(0, 1, 10, 100);
        c.due("23 one", x.passDays(1), 0);
        x.offer(0, 1, 20, 100);
        c.due("23 two left", x.daysLeft(0), 2);
        c.due("23 three left", x.daysLeft(1), 3);
        c.due("23 two", x.passDays(2), 0);
        c.due("23 next stage", x.stage(0), 1);
        c.due("23 its days", x.daysLeft(0), 3);
        c.due("23 still", x.stage(1), 0);
        c.due("23 to the end of the first", x.passDays(6), 1);
        c.due("23 closed", x.stage(0), 3);
        c.due("23 open", x.stage(1), 2);
        c.due("23 the second", x.passDays(60), 1);
        c.due("23 day", x.day(), 69);
        stageLengthCountsWhenAStageBegins();
        soldOutIsClosedAtOnce();
    }

    private static void stageLengthCountsWhenAStageBegins() {
        DairyShares x = Check.register(2, 100);
        x.offer(0, 1, 10, 100);
        c.due("23 length 1 passes", Check.pass(x, 2, 1, 1), 1);
        c.due("23 the present stage keeps its days", x.daysLeft(0), 3);
        x.passDays(3);
        c.due("23 the next has one", x.daysLeft(0), 1);
        x.passDays(1);
        c.due("23 stage 2", x.stage(0), 2);
        c.due("23 length 10 passes", Check.pass(x, 2, 10, 1), 1);
        c.due("23 stage 2 keeps its day", x.passDays(1), 1);
        x.offer(0, 1, 10, 100);
        c.due("23 ten days", x.daysLeft(1), 10);
        c.due("23 29 days", x.passDays(29), 0);
        c.due("23 30 days", x.passDays(1), 1);
    }

    private static void soldOutIsClosedAtOnce() {
        DairyShares x = Check.register(3, 100);
        x.setMilk(2, 100000);
        x.offer(0, 1, 10, 500);
        x.claim(0, 2, 10);
        c.due("23 two days", x.passDays(2), 0);
        c.due("23 not yet sold", x.remaining(0), 10);
        c.due("23 sold out in stage 0", x.passDays(1), 1);
        c.due("23 closed", x.stage(0), 3);
        c.due("23 claim", x.claimOf(0, 2), 0);
        c.due("23 at the price", x.account(2), -1000);
        c.due("23 to the seller", x.account(0), -9000);
        c.due("23 remaining", x.remaining(0), 0);
    }

    private static void sharesAreDividedByDemand() {
        DairyShares x = Check.register(5, 1000, 10, 20);
        x.offer(0, 1, 100, 100);
        x.passDays(3);
        x.claim(0, 1, 50);
        x.claim(0, 2, 30);
        x.claim(0, 4, 20);
        x.setBooks(10000000, 0);
        int price = x.valuate();
        c.due("23 price", price, 5824);
        c.due("23 just as much as remains", x.passDays(3), 1);
        c.due("23 shares(1)", x.shares(1), 60);
        c.due("23 shares(2)", x.shares(2), 50);
        c.due("23 shares(3)", x.shares(3), 0);
        c.due("23 shares(4)", x.shares(4), 20);
        c.due("23 shares(0)", x.shares(0), 900);
        c.due("23 the price then is paid", x.account(4), -20 * 5824);
        c.due("23 the seller gets it", x.account(0), -100000 + 100 * 5824);
        c.due("23 sold", x.sold(0, 1), 100);
    }

    private static void leftoversGoToTheGreatestRemainders() {
        divide(10, new int[] {3, 3, 3, 3}, new int[] {3, 3, 2, 2});
        // 10, 50, 60 and 70 by 19: 0, 2, 3 and 3, with the remainders 10, 12, 3 and 13
        divide(10, new int[] {1, 5, 6, 7}, new int[] {0, 3, 3, 4});
        divide(1, new int[] {4, 4, 5, 4}, new int[] {0, 0, 1, 0});
        divide(2, new int[] {4, 4, 5, 4}, new int[] {1, 0, 1, 0});
        divide(7, new int[] {0, 1000, 1000, 0}, new int[] {0, 4, 3, 0});
        divide(11, new int[] {6, 0, 0, 6}, new int[] {6, 0, 0, 5});
        divide(12, new int[] {6, 0, 0, 6}, new int[] {6, 0, 0, 6});
        divide(5, new int[] {0, 0, 0, 9}, new int[] {0, 0, 0, 5});
        divide(1000, new int[] {999, 1, 1, 1000}, new int[] {499, 1, 0, 500});
    }

    /** Members 1 to 4 claim in the stage 1, with room enough; a claim of 0 is none. */
    private static void divide(int count, int[] claims, int[] parts) {
        DairyShares x = Check.register(5, 6000);
        x.offer(0, 1, count, 100);
        x.passDays(3);
        int all = 0;
        for (int i = 0; i < 4; i++) {
            if (claims[i] > 0) {
                all += claims[i];
                c.due("21 sum of claims", x.claim(0, i + 1, claims[i]), all);
            }
        }
        x.passDays(3);
        for (int i = 0; i < 4; i++) {
            c.due("23 part of " + claims[i] + " in " + count, x.shares(i + 1), parts[i]);
            c.due("23 paid for it", x.account(i + 1), -100L * parts[i]);
        }
        c.due("23 of the seller", x.shares(0), 6000 - Math.min(all, count));
    }

    private static void demandIsReadAtTheEnd() {
        DairyShares x = Check.register(4, 80, 18, 2);
        x.setMilk(1, 19000);
        x.setMilk(2, 3000);
        x.setMilk(3, 1);
        x.offer(0, 3, 30, 100);
        x.claim(0, 1, 20);
        x.claim(0, 2, 1);
        x.claim(0, 3, 4);
        x.setMilk(2, 0);
        x.issue(3, 26);
        c.due("23 room(1)", x.room(1), 13);
        c.due("23 room(3)", x.room(3), 5);
        x.setMilk(0, 1000000);
        x.passDays(3);
        c.due("23 at most its room", x.shares(1), 31);
        c.due("23 needy no more, yet served", x.shares(2), 3);
        c.due("23 has enough, yet served", x.shares(3), 30);
        c.due("23 the seller's need does not count", x.shares(0), 62);
        c.due("28 in stage 0", x.sold(0, 0), 18);
        x.claim(0, 1, 1000);
        x.claim(0, 3, 1);
        x.passDays(3);
        c.due("23 without room it gets nothing", x.shares(1), 31);
        c.due("23 the other one", x.shares(3), 31);
        c.due("28 in stage 1", x.sold(0, 1), 1);
        c.due("26 remaining", x.remaining(0), 11);
    }

    /** The first offer's sale takes the room away that the second one's claim would need. */
    private static void twoOffersInOrder() {
        DairyShares x = Check.register(3, 60, 40, 20);
        x.offer(0, 2, 20, 100);
        x.offer(1, 2, 20, 200);
        x.passDays(3);
        x.claim(0, 2, 8);
        x.claim(1, 2, 8);
        c.due("23 room", x.room(2), 10);
        x.passDays(3);
        c.due("23 the first", x.sold(0, 1), 8);
        c.due("23 the second", x.sold(1, 1), 2);
        c.due("23 full", x.shares(2), 30);
        x.setTreasuryLimit(15);
        c.due("23 both closed", x.passDays(3), 2);
        c.due("23 treasury from the first", x.sold(0, 2), 12);
        c.due("23 treasury from the second", x.sold(1, 2), 3);
        c.due("23 treasury", x.treasury(), 15);
        c.due("23 goes on belonging", x.remaining(1), 15);
        c.due("23 shares(1)", x.shares(1), 35);
    }

    /** Seven shares among eleven: the first and the last number count, and the seller sits between. */
    private static void twelveMembersClaim() {
        DairyShares x = Check.register(12);
        x.issue(5, 1000);
        x.offer(5, 0, 1000, 100);
        x.passDays(3);
        int all = 0;
        for (int m = 0; m < 12; m++) {
            int count = m == 0 || m == 11 ? 160 : 68;
            all += m == 5 ? 0 : count;
            c.due("21 sum of claims", x.claim(0, m, count), m == 5 ? Check.ILLEGAL : all);
        }
        c.due("21 of the first", x.claimOf(0, 0), 160);
        // 932 in all: they get their demands and 68 remain
        c.due("23 open", x.passDays(3), 0);
        c.due("23 the first", x.shares(0), 160);
        c.due("23 the last", x.shares(11), 160);
        c.due("26 remaining", x.remaining(0), 68);
        c.due("29 of the first, in the next stage", x.claimOf(0, 0), 0);
        c.due("29 of the last, in the next stage", x.claimOf(0, 11), 0);
        DairyShares y = Check.register(12, 0, 0, 0, 0, 0, 1000);
        y.offer(5, 0, 7, 100);
        y.passDays(3);
        for (int m = 0; m < 12; m++) {
            y.claim(0, m, 3);
        }
        c.due("23 closed", y.passDays(3), 1);
        // 7 * 3 / 33 = 0 with 21 left for each: the seven smaller numbers get one
        for (int m = 0; m < 12; m++) {
            c.due("23 one each", y.shares(m), m == 5 ? 993 : m < 8 ? 1 : 0);
        }
    }

    private static void promise23Cooperative() {
        DairyShares x = Check.register(3, 200, 20, 20);
        x.setTreasuryLimit(30);
        x.setBooks(72000, 0);
        c.due("23 price", x.valuate(), 180);
        x.offer(0, 1, 100, 777);
        c.due("23 closed", x.passDays(9), 1);
        c.due("23 to the treasury", x.sold(0, 2), 30);
        c.due("23 to the buyer by its room", x.sold(0, 3), 40);
        c.due("23 what remains", x.remaining(0), 30);
        c.due("23 the buyer's", x.shares(1), 60);
        c.due("23 the buyer pays what it offered", x.account(1), -2000 - 40 * 777);
        c.due("23 the seller's", x.shares(0), 130);
        c.due("23 the seller gets both", x.account(0), -20000 + 30 * 180 + 40 * 777);
        c.due("23 others", x.account(2), -2000);
        x.setTreasuryLimit(10);
        x.offer(0, 2, 5, 100);
        x.passDays(9);
        c.due("23 a limit below the treasury", x.sold(1, 2), 0);
        c.due("23 the treasury stays", x.treasury(), 30);
        c.due("23 the buyer gets all", x.sold(1, 3), 5);
        c.due("23 nothing remains", x.remaining(1), 0);
        x.setTreasuryLimit(1000);
        x.offer(0, 2, 5, 100);
        x.passDays(9);
        c.due("23 the treasury gets all", x.sold(2, 2), 5);
        c.due("23 and the buyer nothing", x.sold(2, 3), 0);
    }

    private static void promise24To29Queries() {
        DairyShares x = Check.register(3, 100, 0, 20);
        x.setMilk(1, 9000);
        c.due("24 none", x.offerCount(), 0);
        x.offer(0, 2, 30, 100);
        c.due("24 one", x.offerCount(), 1);
        x.claim(0, 1, 4);
        for (int offer = -1; offer <= 1; offer += 2) {
            c.due("25 no such offer", x.stage(offer), Check.INVALID);
            c.due("26 no such offer", x.remaining(offer), Check.INVALID);
            c.due("27 no such offer", x.daysLeft(offer), Check.INVALID);
            c.due("28 no such offer", x.sold(offer, 0), Check.INVALID);
            c.due("29 no such offer", x.claimOf(offer, 0), Check.INVALID);
        }
        c.due("28 to -1", x.sold(0, -1), Check.INVALID);
        c.due("28 to 4", x.sold(0, 4), Check.INVALID);
        c.due("29 member -1", x.claimOf(0, -1), Check.INVALID);
        c.due("29 member 3", x.claimOf(0, 3), Check.INVALID);
        c.due("29 its claim", x.claimOf(0, 1), 4);
        c.due("29 without one", x.claimOf(0, 2), 0);
        c.due("29 of the seller", x.claimOf(0, 0), 0);
        for (int day = 0; day < 9; day++) {
            c.due("25 stage", x.stage(0), day / 3);
            c.due("27 days left", x.daysLeft(0), 3 - day % 3);
            c.due("28 stage 0", x.sold(0, 0), day < 3 ? 0 : 4);
            c.due("26 remaining", x.remaining(0), day < 3 ? 30 : 26);
            x.passDays(1);
        }
        c.due("25 closed", x.stage(0), 3);
        c.due("27 closed", x.daysLeft(0), Check.NONE);
        c.due("28 stage 0", x.sold(0, 0), 4);
        c.due("28 stage 1", x.sold(0, 1), 0);
        c.due("28 treasury", x.sold(0, 2), 26);
        c.due("28 buyer", x.sold(0, 3), 0);
        c.due("29 closed", x.claimOf(0, 1), 0);
        x.offer(0, 1, 7, 100);
        c.due("24 closed ones count", x.offerCount(), 2);
        c.due("26 of each its own", x.remaining(1), 7);
    }
}
