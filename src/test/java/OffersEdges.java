/** The edges of "Offers" and of the promises 20 to 29, sentence by sentence. */
final class OffersEdges {
    private static final String TERMS = "Offers";

    private OffersEdges() {
    }

    static void run(Edges e) {
        atMostTwentyOffers(e);
        stages(e);
        stageLength(e);
        whoCanClaim(e);
        oneClaimInAStage(e);
        aDayPasses(e);
        OffersSaleEdges.run(e);
        promise20(e);
        promise20Refused(e);
        promise21(e);
        promise21Refused(e);
        promise22(e);
        promise23(e);
        promises24To26(e);
        promise27(e);
        promise28(e);
        promise29(e);
        e.allIsQuoted(TERMS);
        for (int promise = 20; promise <= 29; promise++) {
            e.allIsQuoted("Promise " + promise);
        }
    }

    /** Four members; member 0 has 1000 shares and offered so many to member 1; the limit is 250. */
    static DairyShares inStage(int stage, int count) {
        DairyShares x = Check.register(4, 1000);
        x.offer(0, 1, count, 100);
        for (int s = 0; s < stage; s++) {
            x.passDays(3);
        }
        return x;
    }

    /** The same in the stage 0, with all others in need. */
    static DairyShares needy(int count) {
        DairyShares x = inStage(0, count);
        for (int m = 1; m < 4; m++) {
            x.setMilk(m, 1000000);
        }
        return x;
    }

    /** So many offers of one share each. */
    private static Twins.Make offers(int number) {
        return () -> {
            DairyShares x = Check.register(2, 1000);
            for (int o = 0; o < number; o++) {
                x.offer(0, 1, 1, 100);
            }
            return x;
        };
    }

    private static Twins.Make withdrawn(int number) {
        return () -> {
            DairyShares x = offers(number).it();
            for (int o = 0; o < number; o++) {
                x.withdraw(o);
            }
            return x;
        };
    }

    /** An offer's number one step outside, where there is no offer, one, and twenty. */
    private static void noSuchOffer(Edges e, String call, Edges.CallWith f) {
        for (int number : new int[] {0, 1, 20}) {
            e.outside(offers(number), call + ", offer", f, 0, number - 1);
        }
    }

    private static void atMostTwentyOffers(Edges e) {
        e.sentence(TERMS, "There are at most 20 offers, numbered from 0 in the order in which they were made;"
            + " closed ones count.");
        DairyShares x = Check.register(2, 1000);
        for (int o = 0; o < 20; o++) {
            e.due("no offer " + o + " yet", x.remaining(o), Edges.INVALID);
            e.due("offer", x.offer(0, 1, o + 1, 100), o);
        }
        for (int o = 0; o < 20; o++) {
            e.due("remaining(" + o + ")", x.remaining(o), o + 1);
        }
        e.does(offers(18), "the nineteenth", z -> z.offer(0, 1, 1, 100), 18);
        e.does(offers(19), "the twentieth", z -> z.offer(0, 1, 1, 100), 19);
        e.keeps(offers(20), "the one after", z -> z.offer(0, 1, 1, 100), Edges.FULL);
        e.does(withdrawn(19), "the twentieth after closed ones", z -> z.offer(0, 1, 1, 100), 19);
        e.keeps(withdrawn(20), "the one after closed ones", z -> z.offer(0, 1, 1, 100), Edges.FULL);
        DairyShares passed = offers(20).it();
        e.due("twenty are closed by days", passed.passDays(9), 20);
        e.due("those count, too", passed.offer(0, 1, 1, 100), Edges.FULL);
    }

    private static void stages(Edges e) {
        e.sentence(TERMS, "An offer has a seller, a buyer (another member), a number of shares that remain,"
            + " an offered price, and a stage: 0 needy, 1 members, 2 cooperative, 3 closed.");
        DairyShares x = inStage(0, 400);
        for (int day = 0; day <= 10; day++) {
            e.due("stage on day " + day, x.stage(0), Math.min(day / 3, 3));
            e.due("remaining on day " + day, x.remaining(0), day < 9 ? 400 : 100);
            x.passDays(1);
        }
        e.keeps(() -> inStage(0, 400), "the buyer is another member", z -> z.offer(0, 0, 1, 100), Edges.INVALID);

        e.sentence(TERMS, "A new offer is in the stage 0.");
        e.due("with nobody in need", inStage(0, 5).stage(0), 0);
        e.due("with all in need", needy(5).stage(0), 0);
        DairyShares y = inStage(2, 5);
        y.offer(0, 1, 5, 100);
        e.due("beside an older one", y.stage(1), 0);
        e.due("the older one", y.stage(0), 2);
        y.passDays(3);
        y.offer(0, 1, 5, 100);
        e.due("beside a closed one", y.stage(2), 0);
    }

    private static void stageLength(Edges e) {
        e.sentence(TERMS, "Each of the stages 0 to 2 lasts as many days as the stage length"
            + " (1 to 10; 3 at first) tells when the stage begins.");
        e.due("at first", inStage(0, 5).daysLeft(0), 3);
        for (int length : new int[] {1, 2, 3, 9, 10}) {
            DairyShares x = Check.register(2, 1000);
            Check.pass(x, 2, length, 1);
            x.offer(0, 1, 400, 100);
            for (int day = 0; day <= 3 * length + 1; day++) {
                boolean open = day < 3 * length;
                e.due("stage of length " + length + " on day " + day, x.stage(0), open ? day / length : 3);
                e.due("days of length " + length + " on day " + day, x.daysLeft(0),
                    open ? length - day % length : Check.NONE);
                x.passDays(1);
            }
        }
        DairyShares y = inStage(0, 400);
        y.passDays(1);
        Check.pass(y, 2, 1, 1);
        e.due("a shorter length, two days left", y.daysLeft(0), 2);
        y.passDays(2);
        e.due("the stage 1 has one day", y.daysLeft(0), 1);
        Check.pass(y, 2, 10, 1);
        e.due("a greater length, one day left", y.daysLeft(0), 1);
        y.passDays(1);
        e.due("the stage 2", y.stage(0), 2);
        e.due("has ten days", y.daysLeft(0), 10);
        Check.pass(y, 2, 1, 1);
        e.due("nine days do not end it", y.passDays(9), 0);
        e.due("the tenth does", y.passDays(1), 1);
    }

    private static void whoCanClaim(Edges e) {
        e.sentence(TERMS, "In the stages 0 and 1 members other than the seller can claim shares:");
        e.does(() -> needy(40), "another one in the stage 0", x -> x.claim(0, 2, 5), 5);
        e.does(() -> inStage(1, 40), "another one in the stage 1", x -> x.claim(0, 2, 5), 5);
        e.keeps(() -> inStage(2, 40), "another one in the stage 2", x -> x.claim(0, 2, 5), Edges.ILLEGAL);
        e.keeps(() -> inStage(3, 40), "another one in the stage 3", x -> x.claim(0, 2, 5), Edges.ILLEGAL);
        for (int s = 0; s <= 3; s++) {
            int stage = s;
            e.keeps(() -> inStage(stage, 40), "the seller in the stage " + s, x -> x.claim(0, 0, 5), Edges.ILLEGAL);
        }
        e.keeps(() -> {
            DairyShares x = needy(40);
            x.setMilk(0, 1000000);
            x.setLitersPerShare(100);
            return x;
        }, "the seller in need", x -> x.claim(0, 0, 5), Edges.ILLEGAL);

        e.sentence(TERMS, "in the stage 0 those whose shares are fewer than their requirement,");
        int[][] rows = {{2, 0, 0}, {2, 1000, 0}, {2, 1001, 0}, {2, 2000, 0}, {2, 2001, 1}, {2, 3000, 1}, {0, 0, 0},
            {0, 1, 1}};
        for (int[] row : rows) {
            Twins.Make make = () -> {
                DairyShares x = Check.register(3, 98, row[0]);
                x.setMilk(1, row[1]);
                x.offer(0, 2, 40, 100);
                return x;
            };
            String run = row[0] + " shares, milk " + row[1];
            if (row[2] == 1) {
                e.does(make, run, x -> x.claim(0, 1, 5), 5);
            } else {
                e.keeps(make, run, x -> x.claim(0, 1, 5), Edges.ILLEGAL);
            }
        }

        e.sentence(TERMS, "in the stage 1 all (the buyer, too).");
        e.does(() -> inStage(1, 40), "the buyer", x -> x.claim(0, 1, 5), 5);
        Twins.Make rich = () -> {
            DairyShares x = Check.register(3, 50, 50);
            x.setMilk(2, 1);
            x.offer(0, 2, 40, 100);
            x.passDays(3);
            return x;
        };
        e.does(rich, "one without need and room", x -> x.claim(0, 1, 5), 5);
        e.does(rich, "the buyer in need", x -> x.claim(0, 2, 5), 5);
    }

    private static void oneClaimInAStage(Edges e) {
        e.sentence(TERMS, "A member has one claim at most in a stage;");
        DairyShares x = needy(500);
        x.claim(0, 2, 7);
        e.due("once more in the stage 0", x.claim(0, 2, 7), 7);
        x.passDays(3);
        e.due("sold once", x.shares(2), 7);
        e.due("none in the stage 1", x.claimOf(0, 2), 0);
        x.claim(0, 2, 3);
        e.due("once more in the stage 1", x.claim(0, 2, 3), 3);
        x.passDays(3);
        e.due("7 + 3", x.shares(2), 10);

        e.sentence(TERMS, "a later one takes the place of an earlier one.");
        for (int stage = 0; stage <= 1; stage++) {
            DairyShares y = stage == 0 ? needy(500) : inStage(1, 500);
            e.due("first", y.claim(0, 2, 5), 5);
            e.due("greater", y.claim(0, 2, 1000), 1000);
            e.due("of another member", y.claim(0, 3, 2), 1002);
            e.due("the least", y.claim(0, 2, 1), 3);
            e.due("its claim", y.claimOf(0, 2), 1);
            y.passDays(3);
            e.due("it gets the latest", y.shares(2), 1);
            e.due("the other one", y.shares(3), 2);
        }
    }

    private static void aDayPasses(Edges e) {
        e.sentence(TERMS, "A day passes as follows: each open offer, in the order of their numbers,"
            + " has one day less left; if none is left, its stage ends.");
        DairyShares x = inStage(0, 400);
        int[] left = {3, 2, 1, 3, 2, 1, 3, 2, 1, Check.NONE, Check.NONE};
        for (int day = 0; day < left.length; day++) {
            e.due("days left on day " + day, x.daysLeft(0), left[day]);
            x.passDays(1);
        }
        DairyShares y = inStage(0, 10);
        y.passDays(1);
        y.offer(0, 1, 20, 100);
        y.offer(0, 1, 30, 100);
        y.withdraw(1);
        y.passDays(2);
        e.due("the first one's stage ended", y.stage(0), 1);
        e.due("the closed one stays closed", y.stage(1), 3);
        e.due("the third one has a day left", y.daysLeft(2), 1);
        e.due("days in one call or in three", Twins.difference(
            () -> passed(9), () -> passed(1, 1, 1, 2, 4), 0).length(), 0);
        theFirstOfferIsServedFirst(e);
    }

    private static DairyShares passed(int... days) {
        DairyShares x = Twins.rich();
        for (int d : days) {
            x.passDays(d);
        }
        return x;
    }

    /** Both stages end on one day; the room and the treasury limit do not do for both. */
    private static void theFirstOfferIsServedFirst(Edges e) {
        for (int first = 0; first <= 1; first++) {
            DairyShares x = Check.register(3, 60, 40, 20);
            x.offer(first, 2, 20, 100);
            x.offer(1 - first, 2, 20, 100);
            x.passDays(3);
            x.claim(1, 2, 8);
            x.claim(0, 2, 8);
            x.setTreasuryLimit(15);
            x.passDays(3);
            e.due("the first one sells its 8 of the room of 10", x.sold(0, 1), 8);
            e.due("the second one sells 2", x.sold(1, 1), 2);
            x.passDays(3);
            e.due("the first one sells its 12 of the 15", x.sold(0, 2), 12);
            e.due("the second one sells 3", x.sold(1, 2), 3);
        }
    }

    /** The seller has so many shares, of which so many are required; the other members have none. */
    private static Twins.Make market(int shares, int required) {
        return () -> {
            DairyShares x = Check.register(12, shares);
            x.setMilk(0, required * 1000);
            return x;
        };
    }

    private static void promise20(Edges e) {
        e.sentence("Promise 20", "`int offer(int seller, int buyer, int count, int offered)`: Makes an offer.");
        DairyShares x = Check.register(3, 50);
        x.offer(0, 2, 20, 777);
        e.due("its shares", x.remaining(0), 20);
        e.due("its stage", x.stage(0), 0);
        e.due("free shares", x.freeShares(0), 30);
        x.setTreasuryLimit(0);
        x.passDays(9);
        e.due("its buyer", x.shares(2), 12);
        e.due("its offered price", x.account(2), -12 * 777);
        e.due("its seller", x.shares(0), 38);
        e.sentence("Promise 20", "This is an action.");
        e.does(market(50, 0), "offer(0, 1, 5, 100)", z -> z.offer(0, 1, 5, 100), 0);
        e.does(Twins::rich, "offer(3, 0, 5, 90)", z -> z.offer(3, 0, 5, 90), 3);
        e.sentence("Promise 20", "- `seller`: a member");
        Twins.Make both = () -> {
            DairyShares z = Check.register(12, 50);
            z.issue(11, 50);
            return z;
        };
        e.does(both, "of the first", z -> z.offer(0, 11, 5, 100), 0);
        e.does(both, "of the last", z -> z.offer(11, 0, 5, 100), 0);
        e.noSuchMember("offer", (z, m) -> z.offer(m, 0, 1, 100));
        e.outside(both, "seller", (z, m) -> z.offer(m, 0, 1, 100), 0, 11);
        e.sentence("Promise 20", "- `buyer`: another member");
        e.keeps(both, "to itself, the first", z -> z.offer(0, 0, 5, 100), Edges.INVALID);
        e.keeps(both, "to itself, the last", z -> z.offer(11, 11, 5, 100), Edges.INVALID);
        e.does(both, "to the next", z -> z.offer(0, 1, 5, 100), 0);
        e.does(both, "to the one before", z -> z.offer(11, 10, 5, 100), 0);
        e.noSuchMember("offer", (z, m) -> z.offer(0, m, 1, 100));
        e.outside(both, "buyer", (z, m) -> z.offer(0, m, 1, 100), 0, 11);
        e.sentence("Promise 20", "- `count`: 1 to 1000");
        e.within(market(1001, 0), "count", (z, n) -> z.offer(0, 1, n, 100), 1, 1000, n -> 0);
        e.outside(market(1001, 0), "count", (z, n) -> z.offer(0, 1, n, 100), 1, 1000);
        e.sentence("Promise 20", "- `offered`: the offered price, 1 to 100000");
        Twins.Make cheap = () -> {
            DairyShares z = Check.register(2, 50);
            Check.pass(z, 0, 1, 1);
            return z;
        };
        e.within(cheap, "offered", (z, n) -> z.offer(0, 1, 5, n), 1, 100000, n -> 0);
        e.outside(cheap, "offered", (z, n) -> z.offer(0, 1, 5, n), 1, 100000);
        e.sentence("Promise 20", "Returns the number of the offer;");
        for (int number : new int[] {0, 1, 18, 19}) {
            e.does(offers(number), "after " + number, z -> z.offer(0, 1, 1, 100), number);
        }
    }

    private static void promise20Refused(Edges e) {
        e.sentence("Promise 20", "INVALID_ARGUMENT if there are no such members, both are the same,"
            + " or another argument is out of range;");
        int[][] wrong = {{-1, 0, 5, 100}, {5, 0, 5, 100}, {0, -1, 5, 100}, {0, 5, 5, 100}, {0, 0, 5, 100},
            {4, 4, 5, 100}, {5, 5, 5, 100}, {0, 1, 0, 100}, {0, 1, 1001, 100}, {0, 1, 5, 0}, {0, 1, 5, 100001}};
        for (int[] a : wrong) {
            String call = "offer(" + a[0] + ", " + a[1] + ", " + a[2] + ", " + a[3] + ")";
            e.keeps(Twins::rich, call, x -> x.offer(a[0], a[1], a[2], a[3]), Edges.INVALID);
        }
        e.sentence("Promise 20", "ILLEGAL_STATE if count is greater than the free shares of the seller,"
            + " or offered is less than the par value;");
        int[][] free = {{10, 3, 6, 0}, {10, 3, 7, 0}, {10, 3, 8, 1}, {10, 9, 1, 0}, {10, 10, 1, 1}, {10, 11, 1, 1},
            {0, 0, 1, 1}, {999, 0, 1000, 1}, {1000, 0, 1000, 0}, {1000, 1, 1000, 1}, {1001, 1, 1000, 0}};
        for (int[] a : free) {
            String call = a[2] + " of " + a[0] + " with " + a[1] + " required";
            if (a[3] == 0) {
                e.does(market(a[0], a[1]), call, x -> x.offer(0, 1, a[2], 100), 0);
            } else {
                e.keeps(market(a[0], a[1]), call, x -> x.offer(0, 1, a[2], 100), Edges.ILLEGAL);
            }
        }
        for (int first : new int[] {7, 8}) {
            Twins.Make offered = () -> {
                DairyShares x = market(10, 0).it();
                x.offer(0, 1, first, 100);
                return x;
            };
            e.does(offered, "just what is free beside " + first, x -> x.offer(0, 2, 10 - first, 100), 1);
            e.keeps(offered, "one more beside " + first, x -> x.offer(0, 2, 11 - first, 100), Edges.ILLEGAL);
            DairyShares again = offered.it();
            again.withdraw(0);
            e.due("one more than all after a withdrawal", again.offer(0, 2, 11, 100), Edges.ILLEGAL);
            e.due("all after a withdrawal", again.offer(0, 2, 10, 100), 1);
        }
        offeredBelowThePar(e);
        e.sentence("Promise 20", "CAPACITY_EXCEEDED if there are 20 offers.");
        e.does(offers(19), "with 19", x -> x.offer(0, 1, 1, 100), 19);
        e.keeps(offers(20), "with 20", x -> x.offer(0, 1, 1, 100), Edges.FULL);
        DairyShares y = offers(20).it();
        y.undo();
        e.due("after an undo", y.offer(0, 1, 1, 100), 19);
    }

    private static void offeredBelowThePar(Edges e) {
        for (int par : new int[] {1, 2, 99, 100, 101, 1000}) {
            Twins.Make make = () -> {
                DairyShares x = Check.register(2, 50);
                x.setBooks(100000, 0);
                x.valuate();
                Check.pass(x, 0, par, 1);
                return x;
            };
            int below = par == 1 ? Edges.INVALID : Edges.ILLEGAL;
            e.keeps(make, "one below the par " + par, x -> x.offer(0, 1, 5, par - 1), below);
            e.does(make, "the par " + par + ", far below the price", x -> x.offer(0, 1, 5, par), 0);
            e.does(make, "one above the par " + par, x -> x.offer(0, 1, 5, par + 1), 0);
        }
    }

    private static void promise21(Edges e) {
        e.sentence("Promise 21", "`int claim(int offer, int member, int count)`: Claims shares of an offer.");
        DairyShares x = inStage(1, 40);
        x.offer(0, 1, 50, 100);
        x.passDays(1);
        x.claim(0, 2, 9);
        e.due("of this offer", x.claimOf(0, 2), 9);
        e.due("of no other", x.claimOf(1, 2), 0);
        e.due("of no other member", x.claimOf(0, 3), 0);
        e.due("nothing is sold yet", x.shares(2), 0);
        x.passDays(2);
        e.due("sold", x.shares(2), 9);
        e.sentence("Promise 21", "This is an action.");
        e.does(() -> inStage(1, 40), "claim(0, 3, 4)", z -> z.claim(0, 3, 4), 4);
        e.does(Twins::rich, "claim(1, 4, 9) again", z -> z.claim(1, 4, 9), 9);
        e.sentence("Promise 21", "- `offer`: an offer");
        Twins.Make twenty = () -> {
            DairyShares z = offers(20).it();
            z.passDays(3);
            return z;
        };
        e.does(twenty, "of the first", z -> z.claim(0, 1, 4), 4);
        e.does(twenty, "of the last", z -> z.claim(19, 1, 4), 4);
        noSuchOffer(e, "claim", (z, o) -> z.claim(o, 1, 1));
        e.sentence("Promise 21", "- `member`: a member");
        Twins.Make twelve = () -> {
            DairyShares z = market(50, 0).it();
            z.issue(5, 50);
            z.offer(5, 0, 5, 100);
            z.passDays(3);
            return z;
        };
        e.does(twelve, "of the first", z -> z.claim(0, 0, 4), 4);
        e.does(twelve, "of the last", z -> z.claim(0, 11, 4), 4);
        e.outside(twelve, "member", (z, m) -> z.claim(0, m, 4), 0, 11);
        e.outside(() -> inStage(1, 40), "member of four", (z, m) -> z.claim(0, m, 4), 0, 3);
        e.sentence("Promise 21", "- `count`: 1 to 1000");
        e.within(() -> inStage(1, 40), "count", (z, n) -> z.claim(0, 2, n), 1, 1000, n -> n);
        e.outside(() -> inStage(1, 40), "count", (z, n) -> z.claim(0, 2, n), 1, 1000);
        e.sentence("Promise 21", "Returns the sum of all claims of the stage then;");
        DairyShares y = twelve.it();
        int sum = 0;
        for (int m = 0; m < 12; m++) {
            sum += m == 5 ? 0 : 1000;
            e.due("with member " + m, y.claim(0, m, 1000), m == 5 ? Edges.ILLEGAL : sum);
        }
        e.due("one less", y.claim(0, 11, 999), 10999);
        DairyShares last = needy(500);
        last.claim(0, 3, 20);
        last.passDays(3);
        e.due("not those of the last stage", last.claim(0, 2, 6), 6);
    }

    private static void promise21Refused(Edges e) {
        e.sentence("Promise 21", "INVALID_ARGUMENT if there is no such offer or member or count is out of range;");
        int[][] wrong = {{-1, 4, 5}, {3, 4, 5}, {1, -1, 5}, {1, 5, 5}, {1, 4, 0}, {1, 4, 1001}, {3, 5, 0}};
        for (int[] a : wrong) {
            String call = "claim(" + a[0] + ", " + a[1] + ", " + a[2] + ")";
            e.keeps(Twins::rich, call, x -> x.claim(a[0], a[1], a[2]), Edges.INVALID);
        }
        e.sentence("Promise 21", "ILLEGAL_STATE if the offer is not in the stage 0 or 1, the member is the seller,"
            + " or it cannot claim in this stage.");
        e.does(() -> needy(40), "stage 0", x -> x.claim(0, 1, 1), 1);
        e.does(() -> inStage(1, 40), "stage 1", x -> x.claim(0, 1, 1), 1);
        e.keeps(() -> inStage(2, 40), "stage 2", x -> x.claim(0, 1, 1), Edges.ILLEGAL);
        e.keeps(() -> inStage(3, 40), "stage 3", x -> x.claim(0, 1, 1), Edges.ILLEGAL);
        e.keeps(withdrawn(1), "a withdrawn one", x -> x.claim(0, 1, 1), Edges.ILLEGAL);
        e.keeps(() -> needy(40), "the seller in the stage 0", x -> x.claim(0, 0, 1), Edges.ILLEGAL);
        e.keeps(() -> inStage(1, 40), "the seller in the stage 1", x -> x.claim(0, 0, 1), Edges.ILLEGAL);
        e.keeps(() -> inStage(0, 40), "not in need", x -> x.claim(0, 1, 1), Edges.ILLEGAL);
        DairyShares y = needy(40);
        y.claim(0, 2, 8);
        y.setMilk(2, 0);
        e.due("in need no more", y.claim(0, 2, 9), Edges.ILLEGAL);
        e.due("its earlier claim stands", y.claimOf(0, 2), 8);
    }

    private static void promise22(Edges e) {
        e.sentence("Promise 22", "`int withdraw(int offer)`: Withdraws an offer:"
            + " it is closed, and its shares go on belonging to the seller.");
        for (int stage = 0; stage <= 2; stage++) {
            DairyShares x = stage == 0 ? needy(40) : inStage(stage, 40);
            x.claim(0, 2, 5);
            long account = x.account(0);
            x.withdraw(0);
            e.due("stage", x.stage(0), 3);
            e.due("days left", x.daysLeft(0), Check.NONE);
            e.due("no claim", x.claimOf(0, 2), 0);
            e.due("remaining", x.remaining(0), 40);
            e.due("days close nothing", x.passDays(60), 0);
            e.due("shares of the seller", x.shares(0), 1000);
            e.due("they are free", x.freeShares(0), 1000);
            e.due("nothing is paid", x.account(0), account);
            e.due("nothing to the treasury", x.treasury(), 0);
        }
        e.sentence("Promise 22", "This is an action.");
        e.does(() -> inStage(0, 40), "withdraw(0)", x -> x.withdraw(0), 40);
        e.does(Twins::rich, "withdraw(1)", x -> x.withdraw(1), 25);
        e.sentence("Promise 22", "- `offer`: an offer");
        e.does(offers(20), "the first", x -> x.withdraw(0), 1);
        e.does(offers(20), "the last", x -> x.withdraw(19), 1);
        e.sentence("Promise 22", "Returns how many shares remained;");
        e.does(() -> inStage(0, 1), "one", x -> x.withdraw(0), 1);
        e.does(() -> inStage(2, 1000), "all", x -> x.withdraw(0), 1000);
        DairyShares y = needy(40);
        y.claim(0, 2, 39);
        y.passDays(3);
        e.due("the last one", y.withdraw(0), 1);
        e.due("the others are sold", y.shares(0), 961);
        e.sentence("Promise 22", "INVALID_ARGUMENT if there is no such offer;");
        noSuchOffer(e, "withdraw", DairyShares::withdraw);
        e.outside(Twins::rich, "withdraw", DairyShares::withdraw, 0, 2);
        e.sentence("Promise 22", "ILLEGAL_STATE if it is closed.");
        e.keeps(withdrawn(2), "withdrawn", x -> x.withdraw(1), Edges.ILLEGAL);
        e.keeps(() -> inStage(3, 40), "at the end of the stage 2", x -> x.withdraw(0), Edges.ILLEGAL);
        e.keeps(() -> inStage(3, 400), "with a rest", x -> x.withdraw(0), Edges.ILLEGAL);
        e.keeps(OffersEdges::soldOut, "sold out", x -> x.withdraw(0), Edges.ILLEGAL);
        DairyShares z = inStage(2, 40);
        z.passDays(2);
        e.due("a day before its end", z.withdraw(0), 40);
    }

    private static DairyShares soldOut() {
        DairyShares x = needy(40);
        x.claim(0, 2, 40);
        x.passDays(3);
        return x;
    }

    private static void promise23(Edges e) {
        e.sentence("Promise 23", "`int passDays(int days)`: Lets days pass.");
        for (int days : new int[] {1, 2, 59, 60}) {
            DairyShares x = new DairyShares();
            x.passDays(days);
            e.due("day", x.day(), days);
        }
        DairyShares y = inStage(0, 400);
        y.passDays(8);
        e.due("not yet", y.stage(0), 2);
        y.passDays(1);
        e.due("then", y.stage(0), 3);
        e.sentence("Promise 23", "This is an action.");
        e.does(() -> inStage(0, 40), "passDays(3)", x -> x.passDays(3), 0);
        e.does(Twins::rich, "passDays(60)", x -> x.passDays(60), 2);
        e.does(DairyShares::new, "passDays(1)", x -> x.passDays(1), 0);
        e.sentence("Promise 23", "- `days`: 1 to 60");
        e.within(() -> inStage(0, 40), "passDays", DairyShares::passDays, 1, 60, n -> n < 9 ? 0 : 1);
        e.sentence("Promise 23", "Returns the number of offers that were closed in these days;");
        e.does(() -> inStage(0, 40), "a day too few", x -> x.passDays(8), 0);
        e.does(() -> inStage(0, 40), "just enough", x -> x.passDays(9), 1);
        e.does(() -> inStage(3, 40), "closed before", x -> x.passDays(60), 0);
        e.does(offers(0), "of none", x -> x.passDays(60), 0);
        e.does(offers(19), "of 19", x -> x.passDays(9), 19);
        e.does(offers(20), "of 20", x -> x.passDays(9), 20);
        e.does(withdrawn(20), "of 20 withdrawn ones", x -> x.passDays(9), 0);
        DairyShares z = needy(40);
        z.claim(0, 2, 40);
        z.offer(0, 1, 5, 100);
        e.due("sold out in the stage 0", z.passDays(3), 1);
        e.due("the other one later", z.passDays(6), 1);
        e.sentence("Promise 23", "INVALID_ARGUMENT if days is out of range.");
        e.outside(Twins::rich, "passDays", DairyShares::passDays, 1, 60);
        e.outside(DairyShares::new, "passDays", DairyShares::passDays, 1, 60);
    }

    private static void promises24To26(Edges e) {
        e.sentence("Promise 24", "`int offerCount()`: Returns the number of offers.");
        for (int number : new int[] {0, 1, 2, 19, 20}) {
            e.keeps(offers(number), "of " + number, DairyShares::offerCount, number);
            e.keeps(withdrawn(number), "of " + number + " closed ones", DairyShares::offerCount, number);
        }
        DairyShares x = offers(20).it();
        x.offer(0, 1, 1, 100);
        e.due("after a refused one", x.offerCount(), 20);

        e.sentence("Promise 25", "`int stage(int offer)`: - `offer`: an offer");
        e.keeps(offers(20), "of the first", z -> z.stage(0), 0);
        e.keeps(offers(20), "of the last", z -> z.stage(19), 0);
        e.sentence("Promise 25", "Returns its stage;");
        for (int s = 0; s <= 3; s++) {
            int stage = s;
            e.keeps(() -> inStage(stage, 40), "stage " + s, z -> z.stage(0), s);
        }
        e.sentence("Promise 25", "INVALID_ARGUMENT if there is no such offer.");
        noSuchOffer(e, "stage", DairyShares::stage);

        e.sentence("Promise 26", "`int remaining(int offer)`: - `offer`: an offer");
        e.keeps(offers(20), "of the first", z -> z.remaining(0), 1);
        e.keeps(offers(20), "of the last", z -> z.remaining(19), 1);
        e.sentence("Promise 26", "Returns how many of its shares remain"
            + " (of a closed one, how many went on belonging to the seller);");
        e.keeps(() -> inStage(0, 1), "the fewest", z -> z.remaining(0), 1);
        e.keeps(() -> inStage(2, 1000), "the most", z -> z.remaining(0), 1000);
        e.keeps(OffersEdges::soldOut, "sold out", z -> z.remaining(0), 0);
        e.keeps(() -> inStage(3, 299), "50 to the treasury, 249 to the buyer", z -> z.remaining(0), 0);
        e.keeps(() -> inStage(3, 300), "50 to the treasury, 250 to the buyer", z -> z.remaining(0), 0);
        e.keeps(() -> inStage(3, 301), "50 and 250, one is too many", z -> z.remaining(0), 1);
        e.keeps(withdrawn(1), "withdrawn", z -> z.remaining(0), 1);
        e.sentence("Promise 26", "INVALID_ARGUMENT if there is no such offer.");
        noSuchOffer(e, "remaining", DairyShares::remaining);
    }

    private static void promise27(Edges e) {
        e.sentence("Promise 27", "`int daysLeft(int offer)`: - `offer`: an offer");
        e.keeps(offers(20), "of the first", x -> x.daysLeft(0), 3);
        e.keeps(offers(20), "of the last", x -> x.daysLeft(19), 3);
        e.sentence("Promise 27", "Returns how many days of its stage are left;");
        for (int s = 0; s <= 2; s++) {
            int stage = s;
            for (int d = 1; d <= 2; d++) {
                int days = d;
                e.keeps(() -> {
                    DairyShares x = inStage(stage, 400);
                    x.passDays(days);
                    return x;
                }, "stage " + s + " after " + d, x -> x.daysLeft(0), 3 - d);
            }
            e.keeps(() -> inStage(stage, 400), "at the beginning of the stage " + s, x -> x.daysLeft(0), 3);
        }
        e.sentence("Promise 27", "INVALID_ARGUMENT if there is no such offer;");
        noSuchOffer(e, "daysLeft", DairyShares::daysLeft);
        e.sentence("Promise 27", "NONE if it is closed.");
        e.keeps(() -> inStage(3, 40), "at the end of the stage 2", x -> x.daysLeft(0), Check.NONE);
        e.keeps(() -> inStage(3, 400), "with a rest", x -> x.daysLeft(0), Check.NONE);
        e.keeps(withdrawn(20), "withdrawn", x -> x.daysLeft(19), Check.NONE);
        e.keeps(OffersEdges::soldOut, "sold out", x -> x.daysLeft(0), Check.NONE);
    }

    /** Of 500 shares: 30 in the stage 0, 40 in the stage 1, 50 to the treasury, 250 to the buyer. */
    private static DairyShares soldToAll() {
        DairyShares x = needy(500);
        x.offer(0, 1, 20, 100);
        x.claim(0, 2, 30);
        x.passDays(3);
        x.claim(0, 3, 40);
        x.claim(1, 3, 6);
        x.passDays(6);
        return x;
    }

    private static void promise28(Edges e) {
        e.sentence("Promise 28", "`int sold(int offer, int to)`: Tells how many shares of an offer were sold.");
        DairyShares y = needy(500);
        e.due("at first", y.sold(0, 0), 0);
        y.claim(0, 2, 30);
        y.passDays(2);
        e.due("before the stage ends", y.sold(0, 0), 0);
        y.passDays(1);
        e.due("when it ends", y.sold(0, 0), 30);
        e.sentence("Promise 28", "- `offer`: an offer");
        e.keeps(offers(20), "of the first", x -> x.sold(0, 0), 0);
        e.keeps(offers(20), "of the last", x -> x.sold(19, 3), 0);
        e.sentence("Promise 28", "- `to`: 0 to claimants in the stage 0, 1 to claimants in the stage 1,"
            + " 2 to the treasury, 3 to the buyer");
        e.keeps(OffersEdges::soldToAll, "to claimants in the stage 0", x -> x.sold(0, 0), 30);
        e.keeps(OffersEdges::soldToAll, "to claimants in the stage 1", x -> x.sold(0, 1), 40);
        e.keeps(OffersEdges::soldToAll, "to the treasury", x -> x.sold(0, 2), 50);
        e.keeps(OffersEdges::soldToAll, "to the buyer", x -> x.sold(0, 3), 250);
        e.keeps(OffersEdges::soldToAll, "of the other offer", x -> x.sold(1, 1), 6);
        e.sentence("Promise 28", "Returns the number;");
        int[] due = {0, 0, 1, 0};
        for (int t = 0; t < 4; t++) {
            int to = t;
            e.keeps(() -> inStage(2, 1), "before, to " + t, x -> x.sold(0, to), 0);
            e.keeps(() -> inStage(3, 1), "one, to " + t, x -> x.sold(0, to), due[t]);
        }
        e.sentence("Promise 28", "INVALID_ARGUMENT if there is no such offer or to is out of range.");
        noSuchOffer(e, "sold", (x, o) -> x.sold(o, 0));
        e.outside(OffersEdges::soldToAll, "of the first", (x, to) -> x.sold(0, to), 0, 3);
        e.outside(OffersEdges::soldToAll, "of the last", (x, to) -> x.sold(1, to), 0, 3);
        e.keeps(OffersEdges::soldToAll, "sold(-1, 4)", x -> x.sold(-1, 4), Edges.INVALID);
    }

    private static void promise29(Edges e) {
        Twins.Make claimed = () -> {
            DairyShares x = Check.register(12, 0, 900);
            for (int o = 0; o < 20; o++) {
                x.offer(1, 0, 10, 100);
            }
            x.passDays(3);
            for (int o = 0; o < 20; o += 19) {
                x.claim(o, 0, 1000);
                x.claim(o, 11, 1);
            }
            return x;
        };
        e.sentence("Promise 29", "`int claimOf(int offer, int member)`: - `offer`: an offer - `member`: a member");
        e.keeps(claimed, "of the first offer and member", x -> x.claimOf(0, 0), 1000);
        e.keeps(claimed, "of the first offer and last member", x -> x.claimOf(0, 11), 1);
        e.keeps(claimed, "of the last offer and first member", x -> x.claimOf(19, 0), 1000);
        e.keeps(claimed, "of the last offer and member", x -> x.claimOf(19, 11), 1);
        e.sentence("Promise 29", "Returns its claim in the present stage, 0 without one (also if the offer is closed);");
        e.keeps(claimed, "without one", x -> x.claimOf(0, 5), 0);
        e.keeps(claimed, "of the seller", x -> x.claimOf(0, 1), 0);
        e.keeps(claimed, "of another offer", x -> x.claimOf(1, 0), 0);
        DairyShares y = needy(500);
        for (int stage = 0; stage <= 1; stage++) {
            y.claim(0, 2, 7);
            y.passDays(2);
            e.due("on the last day of the stage " + stage, y.claimOf(0, 2), 7);
            y.passDays(1);
            e.due("after the stage " + stage, y.claimOf(0, 2), 0);
        }
        y.passDays(3);
        e.due("of a closed one", y.claimOf(0, 2), 0);
        DairyShares z = inStage(1, 40);
        z.claim(0, 2, 7);
        z.withdraw(0);
        e.due("of a withdrawn one", z.claimOf(0, 2), 0);
        DairyShares all = inStage(1, 40);
        all.claim(0, 2, 40);
        all.passDays(3);
        e.due("of one that is sold out", all.claimOf(0, 2), 0);
        e.sentence("Promise 29", "INVALID_ARGUMENT if there is no such offer or member.");
        noSuchOffer(e, "claimOf", (x, o) -> x.claimOf(o, 0));
        for (int o = 0; o < 20; o += 19) {
            int offer = o;
            e.outside(claimed, "of offer " + o, (x, m) -> x.claimOf(offer, m), 0, 11);
        }
        e.outside(() -> inStage(1, 40), "of four", (x, m) -> x.claimOf(0, m), 0, 3);
        e.keeps(claimed, "claimOf(20, 12)", x -> x.claimOf(20, 12), Edges.INVALID);
    }
}
