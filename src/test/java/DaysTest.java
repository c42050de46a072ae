/** Promise 13, and section 1: DAYS go by, with their RAIN, TABLE, FLOW and MUD. */
public final class DaysTest {
    private DaysTest() {
    }

    private static void rainRange() {
        Check.range("pass's rain", Given::whole, (x, n) -> x.pass(n, 1), 0, "7200", 99, "10080");
    }

    private static void daysRange() {
        int seventy = 0;
        OasisBooks x = Given.whole();
        for (int day = 1; day <= 70; day++) {
            seventy += x.pass(30, 1);
        }
        Check.range("pass's days", Given::whole, (y, n) -> y.pass(30, n), 1, "7920", 70, String.valueOf(seventy));
    }

    /** 28 YEARS are 1960 DAYS. */
    private static OasisBooks onDay(int day) {
        return Given.until(Given.oneDead(), day, 20);
    }

    private static void dayTwoThousand() {
        for (int[] d : new int[][] {{1930, 70}, {1960, 40}, {1999, 1}}) {
            OasisBooks x = onDay(d[0]);
            Check.due("pass() from " + d[0] + " refused",
                Check.outcome(() -> x.pass(20, d[1])).startsWith("throws"), false);
            Check.due("DAY", x.many(0), 2000);
            Check.due("DATE", x.many(1), 40);
        }
        for (int[] d : new int[][] {{1931, 70}, {1960, 41}, {1999, 2}, {1999, 70}, {2000, 1}, {2000, 70}}) {
            Check.leaves("pass(20, " + d[1] + ") on the DAY " + d[0], () -> onDay(d[0]), x -> x.pass(20, d[1]),
                Check.STATE);
        }
        OasisBooks x = onDay(1999);
        Check.due("the DAY 2001", Check.outcome(() -> x.pass(20, 2)), Check.STATE);
        Check.due("the DAY 2000 then", Check.outcome(() -> x.pass(20, 1)).startsWith("throws"), false);
    }

    private static void argumentFirst() {
        for (int[] w : new int[][] {{100, 1}, {-1, 1}, {20, 0}, {20, 71}, {20, -1}, {20, Integer.MAX_VALUE}}) {
            Check.leaves("pass(" + w[0] + ", " + w[1] + ") on the DAY 2000", () -> onDay(2000),
                x -> x.pass(w[0], w[1]), Check.ARGUMENT);
        }
    }

    private static void litresThatCame() {
        Check.due("without OWNERS", new OasisBooks().pass(30, 70), 0);
        Check.due("without BOWLS", Given.bowls(0, 0).pass(30, 70), 0);
        OasisBooks x = Given.bowls(1000, 800, 3240);
        int came = x.pass(33, 45);
        Check.due("as told of each", came, x.of(0, 13) + x.of(1, 13) + x.of(2, 13));
        Check.due("only of these DAYS", x.pass(33, 1), x.of(0, 12) + x.of(1, 12) + x.of(2, 12));
    }

    private static void oneByOneOrAtOnce() {
        OasisBooks one = Given.oneDead();
        OasisBooks other = Given.oneDead();
        int came = 0;
        for (int day = 0; day < 70; day++) {
            came += one.pass(24, 1);
        }
        Check.due("litres", other.pass(24, 70), came);
        Check.due("all", Look.at(other), Look.at(one));
    }

    private static void dates() {
        OasisBooks x = new OasisBooks();
        int[][] want = {{0, 0}, {1, 1}, {69, 69}, {70, 0}, {71, 1}, {139, 69}, {140, 0}, {1999, 39}, {2000, 40}};
        for (int[] w : want) {
            Given.until(x, w[0], 0);
            Check.due("DAY", x.many(0), w[0]);
            Check.due("the DATE of the DAY " + w[0], x.many(1), w[1]);
        }
    }

    private static void rainDividedByThree() {
        int[][] want = {{0, 188}, {1, 188}, {2, 188}, {3, 189}, {5, 189}, {6, 190}, {36, 200}, {97, 220}, {98, 220},
            {99, 221}};
        for (int[] w : want) {
            OasisBooks x = new OasisBooks();
            x.pass(w[0], 1);
            Check.due("TABLE with RAIN " + w[0], x.many(2), w[1]);
        }
    }

    private static void flowAheadOfIt() {
        OasisBooks x = new OasisBooks();
        int[][] want = {{188, 10}, {178, 9}, {169, 8}, {161, 8}, {153, 7}};
        for (int[] w : want) {
            x.pass(0, 1);
            Check.due("TABLE on the DAY " + x.many(0), x.many(2), w[0]);
            Check.due("FLOW on the DAY " + x.many(0), x.many(3), w[1]);
        }
    }

    private static void pumpDraws() {
        for (int draw : new int[] {0, 1, 19, 20}) {
            OasisBooks x = new OasisBooks();
            x.pump(draw);
            x.pass(0, 1);
            Check.due("TABLE with DRAW " + draw, x.many(2), 188 - draw);
            int flow = x.many(3);
            x.pass(99, 1);
            Check.due("TABLE with DRAW " + draw + " on the next DAY", x.many(2), 188 - draw + 33 - flow - draw);
        }
    }

    /** By RAIN 99 and no DRAW the TABLE is 399 on the DAY 24. */
    private static OasisBooks high() {
        return Given.until(new OasisBooks(), 24, 99);
    }

    private static void tableBehind(String when, OasisBooks x, int draw, int rain, int want) {
        x.pump(draw);
        x.pass(rain, 1);
        Check.due("TABLE " + when + ", with DRAW " + draw + " and RAIN " + rain, x.many(2), want);
    }

    private static void tableFourHundredAtMost() {
        Check.due("TABLE on the DAY 24", high().many(2), 399);
        Check.due("FLOW on the DAY 24", high().many(3), 31);
        tableBehind("from 399", high(), 2, 99, 399);
        tableBehind("from 399", high(), 1, 99, 400);
        tableBehind("from 399", high(), 0, 99, 400);
        OasisBooks x = Given.until(high(), 26, 99);
        Check.due("TABLE on the DAY 26", x.many(2), 400);
        Check.due("FLOW at 400", x.many(3), 31);
        tableBehind("from 400, all together", Given.until(high(), 26, 99), 20, 99, 382);
        tableBehind("from 400, all together", Given.until(high(), 26, 99), 3, 99, 399);
        tableBehind("from 400", Given.until(high(), 26, 99), 0, 0, 369);
    }

    /** Without RAIN and with DRAW 20 the TABLE is 10 on the DAY 8, and the FLOW 0. */
    private static OasisBooks low() {
        OasisBooks x = new OasisBooks();
        x.pump(20);
        return Given.until(x, 8, 0);
    }

    private static void tableZeroAtLeast() {
        Check.due("TABLE on the DAY 8", low().many(2), 10);
        Check.due("FLOW on the DAY 8", low().many(3), 0);
        tableBehind("from 10", low(), 9, 0, 1);
        tableBehind("from 10", low(), 10, 0, 0);
        tableBehind("from 10", low(), 11, 0, 0);
        tableBehind("from 10", low(), 20, 0, 0);
        tableBehind("from 10, all together", low(), 20, 30, 0);
        tableBehind("from 10, all together", low(), 20, 33, 1);
        OasisBooks x = Given.until(low(), 12, 0);
        Check.due("TABLE on the DAY 12", x.many(2), 0);
        tableBehind("from 0", Given.until(low(), 12, 0), 20, 60, 0);
        tableBehind("from 0", Given.until(low(), 12, 0), 20, 63, 1);
        tableBehind("from 0", Given.until(low(), 12, 0), 0, 0, 0);
        tableBehind("from 0", Given.until(low(), 12, 0), 0, 3, 1);
    }

    /** With MUD 30 the FLOW is (TABLE less 140) / 10. */
    private static void flowZeroAtLeast() {
        OasisBooks x = new OasisBooks();
        x.fall(30);
        Check.due("FLOW at the TABLE 200", x.many(3), 6);
        int[][] want = {{20, 174, 3}, {20, 151, 1}, {0, 150, 1}, {0, 149, 0}, {8, 141, 0}, {1, 140, 0}, {1, 139, 0},
            {20, 119, 0}};
        for (int[] w : want) {
            x.pump(w[0]);
            x.pass(0, 1);
            Check.due("TABLE behind DRAW " + w[0], x.many(2), w[1]);
            Check.due("FLOW at the TABLE " + w[1], x.many(3), w[2]);
        }
    }

    private static void nothingFlows() {
        OasisBooks x = Given.whole();
        x.pump(20);
        Given.until(x, 8, 0);
        int ever = x.of(0, 13);
        Check.due("litres without FLOW", x.pass(0, 5), 0);
        Check.due("of the latest DAY", x.of(0, 12), 0);
        Check.due("ever", x.of(0, 13), ever);
    }

    private static void flowAtMost() {
        OasisBooks x = Given.whole();
        x.dig(50);
        Given.until(x, 70, 99);
        x.clean(7);
        Check.due("FLOW at the TABLE " + x.many(2), x.many(3), (x.many(2) - 30) / 10);
        int flow = x.many(3);
        int table = x.many(2);
        x.pass(99, 1);
        Check.due("TABLE then", x.many(2), Math.min(400, table + 33 - flow));
    }

    private static void mudOnEachTenthDate() {
        OasisBooks x = new OasisBooks();
        int[][] want = {{0, 0}, {1, 0}, {9, 0}, {10, 1}, {11, 1}, {19, 1}, {20, 2}, {60, 6}, {69, 6}, {70, 7}, {71, 7},
            {80, 8}, {140, 14}};
        for (int[] w : want) {
            Given.until(x, w[0], 36);
            Check.due("MUD on the DAY " + w[0], x.many(5), w[1]);
        }
    }

    private static void mudThirtyAtMost() {
        for (int mud : new int[] {28, 29, 30}) {
            OasisBooks x = new OasisBooks();
            x.fall(mud);
            Given.until(x, 10, 36);
            Check.due("MUD on the DATE 10, from " + mud, x.many(5), Math.min(30, mud + 1));
            Given.until(x, 20, 36);
            Check.due("MUD on the DATE 20, from " + mud, x.many(5), 30);
            Given.until(x, 1000, 36);
            Check.due("MUD on the DAY 1000, from " + mud, x.many(5), 30);
        }
    }

    /** On the DATE 10 the FLOW for the TABLE is 12 still, that for the water 11. */
    private static void flowAsItIsNow() {
        OasisBooks x = Given.until(Given.whole(), 9, 36);
        Check.due("TABLE on the DATE 9", x.many(2), 200);
        Check.due("litres on the DATE 10", x.pass(36, 1), 720 * 11);
        Check.due("TABLE on the DATE 10", x.many(2), 200);
        Check.due("litres on the DATE 11", x.pass(36, 1), 720 * 11);
        Check.due("TABLE on the DATE 11", x.many(2), 201);
        Check.due("litres by the new TABLE", Given.whole().pass(99, 1), 720 * 14);
        Check.due("litres by the new TABLE", Given.whole().pass(0, 1), 720 * 10);
    }

    public static void main(String[] args) {
        Check.that("promise 13: rain 0 to 99", DaysTest::rainRange);
        Check.that("promise 13: days 1 to 70", DaysTest::daysRange);
        Check.that("promise 13: DAY would be above 2000", DaysTest::dayTwoThousand);
        Check.that("promise 13: IllegalArgument goes ahead of IllegalState", DaysTest::argumentFirst);
        Check.that("promise 13: the litres that came to USERS in them", DaysTest::litresThatCame);
        Check.that("promise 13: DAYS one by one or at once", DaysTest::oneByOneOrAtOnce);
        Check.that("section 1: the DATE is DAY modulo 70", DaysTest::dates);
        Check.that("section 1: RAIN / 3", DaysTest::rainDividedByThree);
        Check.that("section 1: less FLOW as it is ahead of this", DaysTest::flowAheadOfIt);
        Check.that("section 1: less DRAW", DaysTest::pumpDraws);
        Check.that("section 1: TABLE 400 at most", DaysTest::tableFourHundredAtMost);
        Check.that("section 1: TABLE 0 at least", DaysTest::tableZeroAtLeast);
        Check.that("section 1: FLOW 0 at least", DaysTest::flowZeroAtLeast);
        Check.that("section 1: nothing comes with a FLOW of 0", DaysTest::nothingFlows);
        Check.that("section 1: LENGTH 90 and much RAIN", DaysTest::flowAtMost);
        Check.that("section 1: MUD is 1 more on each DATE divided by 10", DaysTest::mudOnEachTenthDate);
        Check.that("section 1: MUD 30 at most", DaysTest::mudThirtyAtMost);
        Check.that("section 1: the water with the FLOW as it is now", DaysTest::flowAsItIsNow);
        Check.end();
    }
}
