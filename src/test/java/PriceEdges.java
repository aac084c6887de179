import java.util.Arrays;

/** The edges of "Price" and of the promises 15 to 19, sentence by sentence. */
final class PriceEdges {
    private static final String TERMS = "Price";

    private PriceEdges() {
    }

    static void run(Edges e) {
        quotientsAreRoundedDown(e);
        parAtFirst(e);
        onlyAValuationChangesThePrice(e);
        bookValue(e);
        meanOfSurpluses(e);
        atLeastThePar(e);
        theLatestThree(e);
        theParLater(e);
        promise15(e);
        promise16(e);
        promise17(e);
        promises18And19(e);
        e.allIsQuoted("Terms");
        e.allIsQuoted(TERMS);
        for (int promise = 15; promise <= 19; promise++) {
            e.allIsQuoted("Promise " + promise);
        }
    }

    /** One member with so many shares; the par value of 1 hides next to nothing. */
    private static DairyShares parOne(int shares) {
        DairyShares x = Check.register(1, shares);
        Check.pass(x, 0, 1, 1);
        return x;
    }

    private static void setWorth(DairyShares x, int worth) {
        x.setBooks(Math.max(worth, 0), Math.max(-worth, 0));
    }

    private static void quotientsAreRoundedDown(Edges e) {
        e.sentence("Terms", "All numbers are whole. A quotient is rounded down, also below 0,"
            + " unless something else is said.");
        // m = 1000 and e = 5000, so the price is (3 * b + 10000) / 5
        int[][] books = {{-3, 1998}, {-2, 1999}, {-1, 1999}, {0, 2000}, {1, 2000}, {2, 2000}, {3, 2000}, {4, 2001}};
        for (int[] row : books) {
            DairyShares x = Check.register(1, 2);
            x.addSurplus(1000);
            setWorth(x, row[0]);
            e.due("b of " + row[0] + " by 2", x.valuate(), row[1]);
        }
        // b = 10002; m is half the surplus; e = 10 * m / 3
        int[][] means = {{-3, 5998}, {-2, 5999}, {-1, 5999}, {0, 6001}, {1, 6001}, {2, 6002}};
        for (int[] row : means) {
            DairyShares x = Check.register(1, 3);
            x.setBooks(30006, 0);
            x.addSurplus(row[0]);
            x.addSurplus(0);
            e.due("m of " + row[0] + " by 2", x.valuate(), row[1]);
        }
        // b = 10002; e = -10 / all shares: 30006 - 2, - 4 and - 20
        int[][] earnings = {{11, 6000}, {10, 6000}, {9, 6000}, {5, 6000}, {4, 6000}, {3, 5999}, {1, 5997}};
        for (int[] row : earnings) {
            DairyShares x = Check.register(1, row[0]);
            x.setBooks(10002 * row[0], 0);
            x.addSurplus(-1);
            e.due("e of -10 by " + row[0], x.valuate(), row[1]);
        }
    }

    private static void parAtFirst(Edges e) {
        e.sentence(TERMS, "The price is the par value (1 to 1000; 100 at first) at first.");
        DairyShares x = new DairyShares();
        e.due("price", x.price(), 100);
        e.due("par value", x.parValue(), 100);
        e.due("1 is a par value", x.propose(0, 1), 0);
        e.due("0 is none", x.propose(0, 0), Edges.INVALID);
        e.due("1000 is one", x.propose(0, 1000), 1);
        e.due("1001 is none", x.propose(0, 1001), Edges.INVALID);
        e.due("the first shares", Check.register(1, 1).account(0), -100);
    }

    private static void onlyAValuationChangesThePrice(Edges e) {
        e.sentence(TERMS, "It changes only by a valuation:");
        DairyShares x = Twins.rich();
        x.valuate();
        int price = x.price();
        x.setBooks(100000000, 0);
        x.addSurplus(1000000);
        e.due("after books and surplus", x.price(), price);
        x.issue(1, 1000);
        x.setTreasuryLimit(60);
        e.due("after an issue", x.price(), price);
        x.passDays(60);
        e.due("after sales", x.price(), price);
        e.due("par passes", Check.pass(x, 0, 1000, 5), 1);
        e.due("after a new par value", x.price(), price);
        x.setVoting(0, 0);
        x.closeMotion(4);
        x.closeMotion(5);
        e.due("after other motions", x.price(), price);
        // 1290 shares: b = 77519; m = (-90 + 1100 + 1000000) / 3 = 333670 and e = 2586
        e.due("a valuation", x.valuate(), (3 * 77519 + 2 * 2586) / 5);
        e.due("then", x.price(), 47545);
    }

    private static void bookValue(Edges e) {
        e.sentence(TERMS, "let b be the assets less the debts, divided by all shares;");
        // the price is 3 * b / 5
        int[][] rows = {{-1, 1}, {0, 1}, {13, 1}, {27, 1}, {28, 2}, {29, 2}, {34, 2}, {35, 3}, {700, 60}};
        for (int[] row : rows) {
            DairyShares x = parOne(7);
            setWorth(x, row[0]);
            e.due(row[0] + " by 7", x.valuate(), row[1]);
        }
        DairyShares y = parOne(7);
        y.setBooks(100000000, 99999972);
        e.due("28 by 7", y.valuate(), 2);
        y.setBooks(100000000, 99999973);
        e.due("27 by 7", y.valuate(), 1);
        DairyShares t = Check.register(2, 100);
        t.offer(0, 1, 50, 100);
        t.passDays(9);
        t.setBooks(100000, 0);
        e.due("the treasury's shares count", t.valuate(), 600);
    }

    private static void meanOfSurpluses(Edges e) {
        e.sentence(TERMS, "let m be the mean of the recorded surpluses (their sum divided by their number;"
            + " 0 without any), and e be 10 * m divided by all shares;");
        DairyShares none = parOne(1);
        e.due("0 without any", none.valuate(), 1);
        none.setBooks(50, 0);
        e.due("0 without any", none.valuate(), 30);
        // one share: the price is 4 * m
        int[][] rows = {{3, 12}, {0, 1}, {-5, 1}, {3, 4, 12}, {3, 5, 16}, {3, 6, 16}, {3, 5, 6, 16}, {3, 5, 7, 20},
            {3, 5, 8, 20}, {-1, 0, 1, 1}, {-1, 1, 3, 4}, {-1, 1, 2, 1}};
        for (int[] row : rows) {
            DairyShares x = parOne(1);
            for (int i = 0; i < row.length - 1; i++) {
                e.due("number", x.addSurplus(row[i]), i + 1);
            }
            e.due("mean of " + Arrays.toString(row), x.valuate(), row[row.length - 1]);
        }
        // e = 10 * m / shares, and the price is 2 * e / 5
        int[][] shares = {{10, 10, 4}, {11, 10, 3}, {11, 11, 4}, {9, 10, 4}, {20, 24, 4}, {20, 26, 5}, {20, 25, 4}};
        for (int[] row : shares) {
            DairyShares x = parOne(row[0]);
            x.addSurplus(row[1]);
            e.due(row[0] + " shares, m = " + row[1], x.valuate(), row[2]);
        }
    }

    private static void atLeastThePar(Edges e) {
        e.sentence(TERMS, "the price becomes (3 * b + 2 * e) / 5, or the par value if this is greater.");
        int[][] rows = {{0, 100}, {165, 100}, {166, 100}, {167, 100}, {168, 100}, {169, 101}, {170, 102}, {-500, 100}};
        for (int[] row : rows) {
            DairyShares x = Check.register(1, 1);
            setWorth(x, row[0]);
            e.due("b = " + row[0], x.valuate(), row[1]);
        }
        int[][] pars = {{99, 166, 99}, {99, 167, 100}, {100, 165, 100}, {100, 168, 100}, {101, 168, 101},
            {101, 169, 101}, {101, 170, 102}, {1000, 1666, 1000}, {1000, 1668, 1000}, {1000, 1669, 1001}};
        for (int[] row : pars) {
            DairyShares x = Check.register(1, 1);
            Check.pass(x, 0, row[0], 1);
            x.setBooks(row[1], 0);
            e.due("par " + row[0] + ", b = " + row[1], x.valuate(), row[2]);
        }
        int[][] ends = {{100000000, 1000000, 64000000}, {100000000, -1000000, 56000000}, {0, 1000000, 4000000},
            {-100000000, 1000000, 100}, {-100000000, -1000000, 100}};
        for (int[] row : ends) {
            DairyShares x = Check.register(1, 1);
            setWorth(x, row[0]);
            x.addSurplus(row[1]);
            x.addSurplus(row[1]);
            x.addSurplus(row[1]);
            e.due("worth " + row[0] + ", surplus " + row[1], x.valuate(), row[2]);
        }
    }

    private static void theLatestThree(Edges e) {
        e.sentence(TERMS, "The latest three surpluses are recorded.");
        DairyShares x = parOne(1);
        int[] surpluses = {3000, 60, 900, 15, 0, 0, 0, 9};
        // four times the mean of the latest three, of two, and of one
        int[] prices = {12000, 6120, 5280, 1300, 1220, 20, 1, 12};
        for (int i = 0; i < surpluses.length; i++) {
            e.due("number", x.addSurplus(surpluses[i]), Math.min(i + 1, 3));
            e.due("the latest ones up to " + i, x.valuate(), prices[i]);
        }
    }

    private static void theParLater(Edges e) {
        e.sentence(TERMS, "The par value can become greater or smaller later without a change of the price.");
        for (int par : new int[] {99, 101, 1, 1000}) {
            DairyShares x = Check.register(1, 1);
            x.valuate();
            e.due("par passes", Check.pass(x, 0, par, 1), 1);
            e.due("par " + par, x.parValue(), par);
            e.due("the price stays with " + par, x.price(), 100);
            x.issue(0, 1);
            e.due("the price is paid", x.account(0), -200);
            e.due("the next valuation", x.valuate(), par);
        }
    }

    private static void promise15(Edges e) {
        Twins.Make two = () -> Check.register(2, 4);
        e.sentence("Promise 15", "`int setBooks(int assets, int debts)`: Sets the assets and the debts.");
        DairyShares x = Check.register(1, 1);
        x.setBooks(1001, 1);
        e.due("3 * 1000 / 5", x.valuate(), 600);
        x.setBooks(1001, 2);
        e.due("3 * 999 / 5", x.valuate(), 599);
        x.setBooks(1, 1001);
        e.due("par", x.valuate(), 100);
        e.sentence("Promise 15", "This is an action.");
        e.does(two, "setBooks(5, 6)", z -> z.setBooks(5, 6), 0);
        e.does(Twins::rich, "setBooks(90000, 1500) again", z -> z.setBooks(90000, 1500), 88500);
        e.sentence("Promise 15", "- `assets`: 0 to 100000000");
        e.within(two, "assets", (z, n) -> z.setBooks(n, 0), 0, 100000000, n -> 0);
        e.outside(two, "assets", (z, n) -> z.setBooks(n, 0), 0, 100000000);
        e.sentence("Promise 15", "- `debts`: 0 to 100000000");
        e.within(two, "debts", (z, n) -> z.setBooks(0, n), 0, 100000000, n -> 0);
        e.outside(two, "debts", (z, n) -> z.setBooks(0, n), 0, 100000000);
        e.sentence("Promise 15", "Returns the previous assets less the previous debts (both are 0 at first);");
        int[][] rows = {{0, 0}, {1, 0}, {0, 1}, {1, 1}, {100000000, 0}, {0, 100000000}, {100000000, 100000000},
            {99999999, 100000000}};
        DairyShares y = new DairyShares();
        int before = 0;
        for (int[] row : rows) {
            e.due("before " + row[0] + " and " + row[1], y.setBooks(row[0], row[1]), before);
            before = row[0] - row[1];
        }
        e.due("at the end", y.setBooks(0, 0), -1);
        e.sentence("Promise 15", "INVALID_ARGUMENT if an argument is out of range.");
        e.keeps(Twins::rich, "assets -1", z -> z.setBooks(-1, 7), Edges.INVALID);
        e.keeps(Twins::rich, "assets too great", z -> z.setBooks(100000001, 7), Edges.INVALID);
        e.keeps(Twins::rich, "debts -1", z -> z.setBooks(7, -1), Edges.INVALID);
        e.keeps(Twins::rich, "debts too great", z -> z.setBooks(7, 100000001), Edges.INVALID);
        e.keeps(Twins::rich, "both", z -> z.setBooks(-1, 100000001), Edges.INVALID);
    }

    private static Twins.Make recorded(int number) {
        return () -> {
            DairyShares x = Check.register(1, 1);
            for (int i = 1; i <= number; i++) {
                x.addSurplus(1000 * i);
            }
            return x;
        };
    }

    private static void promise16(Edges e) {
        e.sentence("Promise 16", "`int addSurplus(int amount)`: Records a surplus,"
            + " in place of the oldest one if there are three.");
        // 4 * m with 1000, 2000, 3000 and so on before it
        int[] values = {100, 2020, 4012, 6680, 9344};
        for (int before = 0; before < values.length; before++) {
            DairyShares x = recorded(before).it();
            x.addSurplus(10);
            e.due("after " + before, x.valuate(), values[before]);
        }
        e.sentence("Promise 16", "This is an action.");
        e.does(recorded(0), "the first", x -> x.addSurplus(7), 1);
        e.does(Twins::rich, "another", x -> x.addSurplus(7), 3);
        e.sentence("Promise 16", "- `amount`: -1000000 to 1000000");
        e.within(recorded(1), "addSurplus", DairyShares::addSurplus, -1000000, 1000000, n -> 2);
        e.outside(recorded(1), "addSurplus", DairyShares::addSurplus, -1000000, 1000000);
        e.sentence("Promise 16", "Returns the number of recorded surpluses then;");
        int[] numbers = {1, 2, 3, 3, 3};
        for (int before = 0; before < numbers.length; before++) {
            e.does(recorded(before), "after " + before, x -> x.addSurplus(0), numbers[before]);
        }
        e.sentence("Promise 16", "INVALID_ARGUMENT if amount is out of range.");
        for (int number = 0; number <= 4; number++) {
            e.outside(recorded(number), "with " + number, DairyShares::addSurplus, -1000000, 1000000);
        }
        e.outside(Twins::rich, "addSurplus", DairyShares::addSurplus, -1000000, 1000000);
    }

    private static void promise17(Edges e) {
        Twins.Make worth = () -> {
            DairyShares x = Check.register(2, 7);
            x.setBooks(2000, 1);
            return x;
        };
        e.sentence("Promise 17", "`int valuate()`: Values the shares anew.");
        DairyShares y = worth.it();
        e.due("before", y.price(), 100);
        y.valuate();
        e.due("285 * 3 / 5", y.price(), 171);
        y.issue(1, 3);
        e.due("as it was", y.price(), 171);
        y.valuate();
        e.due("199 * 3 / 5", y.price(), 119);
        e.sentence("Promise 17", "This is an action.");
        e.does(worth, "valuate()", DairyShares::valuate, 171);
        e.does(() -> Check.register(1, 1), "to the same price", DairyShares::valuate, 100);
        // 290 shares: b = 305, e = 10 * 570 / 290 = 19
        e.does(Twins::rich, "valuate()", DairyShares::valuate, 190);
        e.sentence("Promise 17", "Returns the price then;");
        DairyShares z = worth.it();
        e.due("returned", z.valuate(), z.price());
        e.sentence("Promise 17", "ILLEGAL_STATE if there are no shares.");
        for (int members : new int[] {0, 1, 12}) {
            e.keeps(() -> Check.register(members), members + " members", DairyShares::valuate, Edges.ILLEGAL);
        }
        e.does(() -> Check.register(2, 1), "of one share", DairyShares::valuate, 100);
        e.does(() -> Check.register(2, 0, 1), "of one share", DairyShares::valuate, 100);
        e.does(PriceEdges::allInTreasury, "of the treasury's share alone", DairyShares::valuate, 100);
        DairyShares undone = Check.register(1, 1);
        undone.undo();
        e.due("the only one undone", undone.valuate(), Edges.ILLEGAL);
    }

    private static DairyShares allInTreasury() {
        DairyShares x = Check.register(2, 1);
        x.offer(0, 1, 1, 100);
        x.passDays(9);
        return x;
    }

    private static void promises18And19(Edges e) {
        e.sentence("Promise 18", "`int price()`: Returns the price.");
        e.keeps(DairyShares::new, "at first", DairyShares::price, 100);
        e.keeps(() -> valued(1), "par 1, no worth", DairyShares::price, 1);
        e.keeps(() -> valued(1000), "par 1000, no worth", DairyShares::price, 1000);
        DairyShares x = valued(1000);
        x.undo();
        e.due("after an undo", x.price(), 100);

        e.sentence("Promise 19", "`int parValue()`: Returns the par value.");
        e.keeps(DairyShares::new, "at first", DairyShares::parValue, 100);
        e.keeps(() -> valued(1), "the least", DairyShares::parValue, 1);
        e.keeps(() -> valued(1000), "the greatest", DairyShares::parValue, 1000);
        x.undo();
        e.due("after an undo of the motion", x.parValue(), 100);
        DairyShares y = Check.register(1, 1);
        e.due("a motion that does not pass", Check.pass(y, 0, 7, 0), 0);
        e.due("changes nothing", y.parValue(), 100);
    }

    private static DairyShares valued(int par) {
        DairyShares x = Check.register(1, 1);
        Check.pass(x, 0, par, 1);
        x.valuate();
        return x;
    }
}
