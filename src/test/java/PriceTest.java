/** Promises 15 to 19: the books, surpluses, valuation and price. */
public final class PriceTest {
    private static final Check c = new Check("PriceTest");

    public static void main(String[] args) {
        promise15SetBooks();
        promise16AddSurplus();
        promise17Valuate();
        promise18Price();
        promise19ParValue();
        c.end();
    }

    private static void promise15SetBooks() {
        DairyShares x = new DairyShares();
        c.due("15 both 0 at first", x.setBooks(100000000, 0), 0);
        c.due("15 greatest", x.setBooks(0, 100000000), 100000000);
        c.due("15 least", x.setBooks(30, 10), -100000000);
        c.due("15 assets -1", x.setBooks(-1, 0), Check.INVALID);
        c.due("15 debts -1", x.setBooks(0, -1), Check.INVALID);
        c.due("15 assets too great", x.setBooks(100000001, 0), Check.INVALID);
        c.due("15 debts too great", x.setBooks(0, 100000001), Check.INVALID);
        c.due("15 recorded", x.historySize(), 3);
        c.due("15 stays", x.setBooks(1, 2), 20);
        c.due("15 undo", x.undo(), 3);
        c.due("15 restored", x.setBooks(1, 2), 20);
    }

    private static void promise16AddSurplus() {
        DairyShares x = Check.register(1, 1);
        c.due("16 one", x.addSurplus(-1000000), 1);
        c.due("16 two", x.addSurplus(1000000), 2);
        c.due("16 too great", x.addSurplus(1000001), Check.INVALID);
        c.due("16 too small", x.addSurplus(-1000001), Check.INVALID);
        c.due("16 three", x.addSurplus(0), 3);
        c.due("16 in place of the oldest", x.addSurplus(200), 3);
        // (1000000 + 0 + 200) / 3 = 333400; e = 3334000; 2 * e / 5
        c.due("16 the latest three count", x.valuate(), 1333600);
        x.addSurplus(100);
        // (0 + 200 + 100) / 3 = 100; e = 1000
        c.due("16 the next oldest goes", x.valuate(), 400);
        c.due("16 recorded", x.historySize(), 4);
        x.undo();
        x.undo();
        c.due("16 undo brings the oldest back", x.valuate(), 1333600);
    }

    private static void promise17Valuate() {
        c.due("17 no shares", Check.register(2).valuate(), Check.ILLEGAL);
        DairyShares x = Check.register(1, 7);
        c.due("17 par at least", x.valuate(), 100);
        x.setBooks(2000, 1);
        // b = 1999 / 7 = 285; 3 * 285 / 5 = 171
        c.due("17 by books alone", x.valuate(), 171);
        x.addSurplus(101);
        x.addSurplus(100);
        // m = 201 / 2 = 100; e = 1000 / 7 = 142; (855 + 284) / 5 = 227
        c.due("17 with surpluses", x.valuate(), 227);
        x.addSurplus(-402);
        // m = -201 / 3 = -67; e = -670 / 7 = -96; (855 - 192) / 5 = 132
        c.due("17 rounded down below 0", x.valuate(), 132);
        x.setBooks(3000, 0);
        x.addSurplus(-400);
        // m = (100 - 402 - 400) / 3 = -234; e = -2340 / 7 = -335; b = 428; (1284 - 670) / 5 = 122
        c.due("17 again", x.valuate(), 122);
        c.due("17 recorded", x.historySize(), 4);
        x.setBooks(0, 100000000);
        c.due("17 far below 0", x.valuate(), 100);
        roundsDownBelowZero();
        parTakesPart();
        treasuryTakesPart();
    }

    /** Each quotient below 0 moves the price by one when it is rounded the other way. */
    private static void roundsDownBelowZero() {
        DairyShares mean = Check.register(1, 1);
        mean.setBooks(1000, 0);
        mean.addSurplus(-1);
        mean.addSurplus(0);
        // m = -1 / 2 = -1; e = -10; (3000 - 20) / 5 = 596
        c.due("17 the mean", mean.valuate(), 596);
        DairyShares earning = Check.register(1, 100);
        earning.setBooks(100000, 0);
        earning.addSurplus(-1);
        // e = -10 / 100 = -1; (3000 - 2) / 5 = 599
        c.due("17 e", earning.valuate(), 599);
        DairyShares book = Check.register(1, 10);
        book.setBooks(0, 1);
        book.addSurplus(1000);
        // b = -1 / 10 = -1; e = 1000; (2000 - 3) / 5 = 399
        c.due("17 b", book.valuate(), 399);
    }

    private static void parTakesPart() {
        DairyShares x = Check.register(1, 1);
        c.due("17 par 150 passes", Check.pass(x, 0, 150, 1), 1);
        c.due("17 the price stays", x.price(), 100);
        c.due("17 at least the new par", x.valuate(), 150);
        x.setBooks(252, 0);
        // 3 * 252 / 5 = 151
        c.due("17 above the new par", x.valuate(), 151);
        c.due("17 par 1 passes", Check.pass(x, 0, 1, 1), 1);
        x.setBooks(0, 0);
        c.due("17 down to the par", x.valuate(), 1);
    }

    private static void treasuryTakesPart() {
        DairyShares x = Check.register(2, 40, 0);
        x.offer(0, 1, 30, 100);
        x.passDays(9);
        c.due("17 treasury", x.treasury(), 30);
        x.setBooks(40000, 0);
        c.due("17 all shares are 40", x.valuate(), 600);
    }

    private static void promise18Price() {
        DairyShares x = Check.register(1, 10);
        x.setBooks(10000, 0);
        c.due("18 only a valuation changes it", x.price(), 100);
        x.valuate();
        c.due("18 then", x.price(), 600);
        x.issue(0, 10);
        c.due("18 issue pays it", x.account(0), -7000);
        c.due("18 it stays", x.price(), 600);
        x.undo();
        x.undo();
        c.due("18 undo restores it", x.price(), 100);
    }

    private static void promise19ParValue() {
        DairyShares x = Check.register(1, 10);
        c.due("19 at first", x.parValue(), 100);
        c.due("19 greatest", Check.pass(x, 0, 1000, 1), 1);
        c.due("19 then", x.parValue(), 1000);
        c.due("19 the price stays", x.price(), 100);
        c.due("19 least", Check.pass(x, 0, 1, 1), 1);
        c.due("19 then", x.parValue(), 1);
        c.due("19 undo", x.undo(), 3);
        c.due("19 restored", x.parValue(), 1000);
    }
}
