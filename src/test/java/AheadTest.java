/** Promise 12: DATES are sold AHEAD; and their delivery in section 3. */
public final class AheadTest {
    private AheadTest() {
    }

    /** With 30, 20 and no COINS. */
    private static OasisBooks three() {
        return Given.owners(new int[] {0, 30, 0, 0}, new int[] {0, 20, 0, 0}, new int[] {0, 0, 0, 0});
    }

    private static void nobodySells() {
        Check.nobody("ahead's from", (x, n) -> x.ahead(n, n == 0 ? 2 : 0, 1, 0));
    }

    private static void nobodyBuys() {
        Check.nobody("ahead's to", (x, n) -> x.ahead(n == 0 ? 2 : 0, n, 1, 0));
    }

    private static void bothTheSame() {
        Check.leaves("from 0 to 0", AheadTest::three, x -> x.ahead(0, 0, 1, 0), Check.ARGUMENT);
        Check.leaves("from 2 to 2", AheadTest::three, x -> x.ahead(2, 2, 1, 0), Check.ARGUMENT);
    }

    private static void kilosRange() {
        Check.range("ahead's kilos", AheadTest::three, (x, n) -> x.ahead(0, 1, n, 0), 1, "1", 999, "1");
    }

    private static void coinsRange() {
        Check.range("ahead's coins", () -> Given.owners(new int[] {0, 0, 0, 0}, new int[] {0, 9999, 0, 0}),
            (x, n) -> x.ahead(0, 1, 1, n), 0, "1", 9999, "1");
    }

    private static void paidNow() {
        OasisBooks x = three();
        Check.due("a sale", x.ahead(0, 1, 999, 15), 1);
        Check.due("a second one", x.ahead(2, 0, 1, 45), 2);
        Check.due("sales", x.many(11), 2);
        Check.due("ofSale()", Look.sales(x), Look.text(0, 1, 999) + Look.text(2, 0, 1));
        Check.due("COINS", Look.text(x.of(0, 1), x.of(1, 1), x.of(2, 1)), Look.text(0, 5, 45));
        Check.due("DATES until the harvest", Look.text(x.of(0, 6), x.of(1, 6), x.of(2, 6)), Look.text(0, 0, 0));
    }

    private static void eightAtMost() {
        OasisBooks x = three();
        for (int sale = 1; sale <= 8; sale++) {
            Check.due("a sale", x.ahead(sale % 3, (sale + 1) % 3, sale, 0), sale);
        }
        Check.due("the kilos of the 8th", x.ofSale(7, 2), 8);
        Check.leaves("a 9th", Given::eightSales, y -> y.ahead(0, 1, 1, 0), Check.STATE);
        Check.leaves("a 9th by another", Given::eightSales, y -> y.ahead(1, 0, 999, 5), Check.STATE);
        Check.due("sales of a dead one stay", salesOfADeadOne().many(11), 8);
        Check.leaves("a 9th behind a death", AheadTest::salesOfADeadOne, y -> y.ahead(2, 1, 1, 0), Check.STATE);
    }

    private static OasisBooks salesOfADeadOne() {
        OasisBooks x = Given.eightSales();
        x.die(0, 1, 0);
        return x;
    }

    private static void eightUntilTheHarvest() {
        OasisBooks x = Given.until(Given.eightSales(), 59, 0);
        Check.due("a 9th on the DATE 59", Check.outcome(() -> x.ahead(1, 0, 1, 0)), Check.STATE);
        x.pass(0, 1);
        Check.due("sales on the DATE 60", x.many(11), 0);
        Check.due("ofSale(0, 0) on the DATE 60", Check.outcome(() -> x.ofSale(0, 0)), Check.INDEX);
        for (int sale = 1; sale <= 8; sale++) {
            Check.due("a sale on the DATE 60", x.ahead(0, 1, sale, 0), sale);
        }
        Given.until(x, 129, 0);
        Check.due("sales on the DAY 129", x.many(11), 8);
        x.pass(0, 1);
        Check.due("sales on the DAY 130", x.many(11), 0);
    }

    private static void coinsOrOneMore() {
        Check.due("for all 30 COINS", three().ahead(1, 0, 1, 30), 1);
        Check.leaves("for 31 of 30 COINS", AheadTest::three, x -> x.ahead(1, 0, 1, 31), -3);
        Check.leaves("for 9999 of 30 COINS", AheadTest::three, x -> x.ahead(1, 0, 1, 9999), -3);
        Check.leaves("for 1 of 0 COINS", AheadTest::three, x -> x.ahead(1, 2, 1, 1), -3);
        Check.due("for 0 of 0 COINS", three().ahead(1, 2, 1, 0), 1);
    }

    private static void belowZeroNotEvenZero() {
        for (int coins : new int[] {0, 2}) {
            Check.leaves("with " + (coins - 3) + " COINS for 0", () -> Given.paidThree(coins),
                x -> x.ahead(1, 0, 1, 0), -3);
            Check.leaves("with " + (coins - 3) + " COINS for 1", () -> Given.paidThree(coins),
                x -> x.ahead(1, 0, 1, 1), -3);
        }
        Check.due("with 0 COINS for 0", Given.paidThree(3).ahead(1, 0, 1, 0), 1);
        Check.due("of a seller with -3 COINS", Given.paidThree(0).ahead(0, 1, 1, 5), 1);
    }

    private static void indexFirst() {
        int[][] wrong = {{-1, -1, 0, -1}, {1, 1, 1, 0}, {0, 9, 0, 0}, {9, 0, 1000, 0}, {4, 0, 1, 9999}, {0, 4, 1, 0}};
        for (int[] w : wrong) {
            Check.leaves("ahead with " + Look.text(w), Given::oneDead, x -> x.ahead(w[0], w[1], w[2], w[3]),
                Check.INDEX);
        }
        Check.leaves("a 9th to nobody", Given::eightSales, x -> x.ahead(0, 2, 1, 0), Check.INDEX);
    }

    private static void argumentBeforeState() {
        int[][] wrong = {{1, 1, 1, 0}, {0, 1, 0, 0}, {0, 1, 1000, 0}, {0, 1, 1, -1}, {0, 1, 1, 10000}};
        for (int[] w : wrong) {
            Check.leaves("a 9th with " + Look.text(w), Given::eightSales, x -> x.ahead(w[0], w[1], w[2], w[3]),
                Check.ARGUMENT);
        }
    }

    private static void exceptionsBeforeNumber() {
        Check.leaves("a 9th for 6 of 5 COINS", Given::eightSales, x -> x.ahead(0, 1, 1, 6), Check.STATE);
        int[][] wrong = {{0, 0, 1, 31}, {0, 1, 0, 31}, {0, 1, 1000, 31}, {1, 2, 1, 10000}};
        for (int[] w : wrong) {
            Check.leaves("ahead with " + Look.text(w), AheadTest::three, x -> x.ahead(w[0], w[1], w[2], w[3]),
                Check.ARGUMENT);
        }
    }

    /** At the harvest of the DAY 60, with RAIN 30, the first one has 1860 DATES. */
    private static OasisBooks garden() {
        OasisBooks x = Given.owners(new int[] {5040, 0, 200, 20}, new int[] {0, 0, 0, 0}, new int[] {0, 0, 0, 0});
        x.pollinate(0, 200);
        return x;
    }

    private static void delivered(String when, OasisBooks x, int... want) {
        int[] got = new int[want.length];
        for (int i = 0; i < want.length; i++) {
            got[i] = x.of(i / 2, i % 2 == 0 ? 6 : 1);
        }
        Check.due("DATES and COINS of each, " + when, Look.text(got), Look.text(want));
    }

    private static void allOrOneKiloLacks() {
        int[][] want = {{860, 1, 0, 1859, 0}, {861, 0, 0, 1860, 0}, {862, 0, -2, 1860, 2}, {863, 0, -4, 1860, 4}};
        for (int[] w : want) {
            OasisBooks x = garden();
            x.ahead(0, 1, 999, 0);
            x.ahead(0, 1, w[0], 0);
            Given.until(x, 60, 30);
            delivered("behind 999 and " + w[0] + " of 1860 kilos", x, w[1], w[2], w[3], w[4]);
            Check.due("sales", x.many(11), 0);
            Check.due("DATES harvested ever", x.many(14), 1860);
        }
    }

    private static void allIsLacking() {
        for (int kilos : new int[] {1, 999}) {
            OasisBooks x = Given.bowls(0, 0);
            x.ahead(0, 1, kilos, 0);
            Given.until(x, 60, 0);
            delivered("without DATES", x, 0, -2 * kilos, 0, 2 * kilos);
        }
    }

    private static void inTheOrderTold() {
        OasisBooks x = garden();
        x.ahead(0, 1, 999, 0);
        x.ahead(0, 2, 900, 0);
        x.ahead(0, 1, 10, 0);
        Given.until(x, 60, 30);
        delivered("one behind the other", x, 0, -98, 999, 20, 861, 78);
        OasisBooks y = garden();
        y.ahead(0, 1, 50, 0);
        y.ahead(1, 2, 60, 0);
        Given.until(y, 60, 30);
        delivered("what was just delivered", y, 1810, 0, 0, -20, 50, 20);
        OasisBooks z = garden();
        z.ahead(1, 2, 60, 0);
        z.ahead(0, 1, 50, 0);
        Given.until(z, 60, 30);
        delivered("what comes too late", z, 1810, 0, 50, -120, 0, 120);
    }

    private static void olderDatesToo() {
        OasisBooks x = Given.until(garden(), 60, 30);
        x.ahead(0, 1, 999, 0);
        Given.until(x, 130, 30);
        delivered("of the DATES of the YEAR before", x, 861, 0, 999, 0);
    }

    private static void onlyOnTheHarvest() {
        OasisBooks x = garden();
        x.ahead(0, 1, 7, 0);
        Given.until(x, 59, 30);
        delivered("on the DATE 59", x, 0, 0, 0, 0);
        x.pass(30, 1);
        delivered("on the DATE 60", x, 1853, 0, 7, 0);
        x.ahead(0, 1, 7, 0);
        Given.until(x, 129, 30);
        delivered("on the DAY 129", x, 1853, 0, 7, 0);
        x.pass(30, 1);
        delivered("on the DAY 130", x, 1846, 0, 14, 0);
    }

    public static void main(String[] args) {
        Check.that("promise 12: no such OWNER sells", AheadTest::nobodySells);
        Check.that("promise 12: no such OWNER buys", AheadTest::nobodyBuys);
        Check.that("promise 12: both are the same", AheadTest::bothTheSame);
        Check.that("promise 12: kilos 1 to 999", AheadTest::kilosRange);
        Check.that("promise 12: coins 0 to 9999", AheadTest::coinsRange);
        Check.that("promise 12: the COINS are paid now; how many such sales", AheadTest::paidNow);
        Check.that("promise 12: if there are 8", AheadTest::eightAtMost);
        Check.that("promise 12: at the next harvest; 8 again behind it", AheadTest::eightUntilTheHarvest);
        Check.that("promise 12: -3, not so many COINS", AheadTest::coinsOrOneMore);
        Check.that("promise 12: -3, as with sell(), below 0 not even 0", AheadTest::belowZeroNotEvenZero);
        Check.that("promise 12: IndexOutOfBounds goes first", AheadTest::indexFirst);
        Check.that("promise 12: IllegalArgument goes ahead of IllegalState", AheadTest::argumentBeforeState);
        Check.that("promise 12: exceptions go ahead of -3", AheadTest::exceptionsBeforeNumber);
        Check.that("section 3: so many kilos, or all that there are", AheadTest::allOrOneKiloLacks);
        Check.that("section 3: 2 COINS for each kilo, also below 0", AheadTest::allIsLacking);
        Check.that("section 3: in the order told", AheadTest::inTheOrderTold);
        Check.that("section 3: of the seller's DATES", AheadTest::olderDatesToo);
        Check.that("section 1: on the DATE 60", AheadTest::onlyOnTheHarvest);
        Check.end();
    }
}
