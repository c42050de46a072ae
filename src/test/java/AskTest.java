/** Promises 14 to 19: what one asks. */
public final class AskTest {
    private AskTest() {
    }

    /** On the DAY 8, by then with a TABLE that stayed at 200 and a FLOW of 11: each number is another one. */
    private static OasisBooks full() {
        OasisBooks x = Given.owners(new int[] {800, 70, 60, 2}, new int[] {1000, 90, 40, 3}, new int[] {0, 9, 0, 0});
        x.die(2, 1, 0);
        x.pollinate(0, 30);
        x.pollen(0, 1, 4);
        x.lend(1, 0, 300, 5);
        x.lend(1, 3, 100, 2);
        x.ahead(0, 1, 77, 11);
        x.fall(3);
        x.dig(5);
        x.pump(1);
        x.pass(36, 8);
        x.pump(2);
        return x;
    }

    private static void nobodyIsAsked() {
        for (int what = 0; what < 14; what++) {
            int w = what;
            Check.nobody("of's owner, with " + w, (x, n) -> x.of(n, w));
        }
    }

    private static void ofRange() {
        Check.range("of's what", AskTest::full, (x, n) -> x.of(0, n), 0, "800", 13, "12980");
    }

    private static void ofIndexFirst() {
        for (int what : new int[] {-1, 14, Integer.MAX_VALUE, Integer.MIN_VALUE}) {
            for (int owner : new int[] {-1, 2, 4, 10}) {
                Check.leaves("of(" + owner + ", " + what + ")", AskTest::full, x -> x.of(owner, what), Check.INDEX);
            }
        }
    }

    private static void ofEach() {
        OasisBooks x = full();
        Check.owner(x, 0, 800, 65, 60, 2, 93, 2, 0, 0, 0, 1100, 30, 36, 880, 12980);
        Check.owner(x, 1, 1000, 50, 40, 3, 82, 2, 0, 1, 800, 600, 0, 64, 6468, 12936);
        Check.owner(x, 3, 0, 9, 0, 0, 50, 0, 0, 2, -1, 100, 0, 0, 422, 1477);
    }

    /** NONE without BOWLS, also where BOWLS are used; with one BOWL its number. */
    private static void firstBowlOrNone() {
        OasisBooks x = Given.bowls(0, 1, 0, 5039, 0);
        x.lend(3, 2, 5, 1);
        int[] want = {-1, 0, -1, 1, -1};
        for (int owner = 0; owner < want.length; owner++) {
            Check.due("of(" + owner + ", 8)", x.of(owner, 8), want[owner]);
        }
        x.sell(3, 4, 5034, 0);
        x.sell(1, 4, 1, 0);
        Check.due("of(1, 8) behind the sale of the last", x.of(1, 8), -1);
        Check.due("of(3, 8) of one with lent ones alone", x.of(3, 8), 0);
        Check.due("of(4, 8)", x.of(4, 8), 5);
    }

    private static void placeInTheRow() {
        OasisBooks x = Given.tenOwners();
        for (int owner = 0; owner < 10; owner++) {
            Check.due("of(" + owner + ", 7)", x.of(owner, 7), owner);
        }
    }

    private static void usedBowls() {
        OasisBooks x = Given.bowls(10, 0, 5);
        x.lend(0, 1, 10, 1);
        x.lend(2, 1, 1, 1);
        x.lend(2, 0, 2, 1);
        Check.due("who has lent all and uses 2", x.of(0, 9), 2);
        Check.due("who has none and uses 11", x.of(1, 9), 11);
        Check.due("who has lent 3 of 5", x.of(2, 9), 2);
    }

    private static void bowlRange() {
        for (int what = 0; what < 2; what++) {
            int w = what;
            OasisBooks x = Given.bowls(1, 5038, 1);
            Check.due("ofBowl(0, " + w + ")", x.ofBowl(0, w), 0);
            Check.due("ofBowl(1, " + w + ")", x.ofBowl(1, w), 1);
            Check.due("ofBowl(5038, " + w + ")", x.ofBowl(5038, w), 1);
            Check.due("ofBowl(5039, " + w + ")", x.ofBowl(5039, w), 2);
            Check.beyond("ofBowl's bowl", Given::whole, (y, n) -> y.ofBowl(n, w), 0, 5039, Check.INDEX);
        }
    }

    private static void bowlWhatRange() {
        OasisBooks x = full();
        Check.due("ofBowl(1799, 0)", x.ofBowl(1799, 0), 1);
        Check.due("ofBowl(1799, 1)", x.ofBowl(1799, 1), 0);
        Check.beyond("ofBowl's what", AskTest::full, (y, n) -> y.ofBowl(1799, n), 0, 1, Check.ARGUMENT);
        Check.beyond("ofBowl's what, COMMON", OasisBooks::new, (y, n) -> y.ofBowl(5039, n), 0, 1, Check.ARGUMENT);
    }

    private static void bowlIndexFirst() {
        for (int bowl : new int[] {-1, 5040, Integer.MAX_VALUE, Integer.MIN_VALUE}) {
            for (int what : new int[] {-1, 2}) {
                Check.leaves("ofBowl(" + bowl + ", " + what + ")", AskTest::full, x -> x.ofBowl(bowl, what),
                    Check.INDEX);
            }
        }
    }

    private static void whoseAndUser() {
        OasisBooks x = full();
        int[][] want = {{0, 0, 0}, {799, 0, 0}, {800, 1, 1}, {1399, 1, 1}, {1400, 1, 3}, {1499, 1, 3},
            {1500, 1, 0}, {1799, 1, 0}, {1800, -1, -1}, {5039, -1, -1}};
        for (int[] w : want) {
            Check.due("whose " + w[0] + " is", x.ofBowl(w[0], 0), w[1]);
            Check.due("the USER of " + w[0], x.ofBowl(w[0], 1), w[2]);
        }
    }

    private static void loanRange() {
        for (int what = 0; what < 4; what++) {
            int w = what;
            Check.beyond("ofLoan's loan of none", OasisBooks::new, (x, n) -> x.ofLoan(n, w), 0, -1, Check.INDEX);
            Check.beyond("ofLoan's loan of 2", AskTest::full, (x, n) -> x.ofLoan(n, w), 0, 1, Check.INDEX);
            Check.beyond("ofLoan's loan of 8", Given::eightLoans, (x, n) -> x.ofLoan(n, w), 0, 7, Check.INDEX);
        }
        for (int loan = 0; loan < 8; loan++) {
            Check.due("CYCLES of the LOAN " + loan, Given.eightLoans().ofLoan(loan, 3), loan + 1);
        }
    }

    private static void loanWhatRange() {
        OasisBooks x = full();
        Check.due("ofLoan()", Look.loans(x), Look.text(1, 0, 300, 4) + Look.text(1, 3, 100, 1));
        Check.beyond("ofLoan's what", AskTest::full, (y, n) -> y.ofLoan(1, n), 0, 3, Check.ARGUMENT);
    }

    private static void loanIndexFirst() {
        for (int loan : new int[] {-1, 2, 8, Integer.MAX_VALUE, Integer.MIN_VALUE}) {
            for (int what : new int[] {-1, 4}) {
                Check.leaves("ofLoan(" + loan + ", " + what + ")", AskTest::full, x -> x.ofLoan(loan, what),
                    Check.INDEX);
            }
        }
    }

    private static void saleRange() {
        for (int what = 0; what < 3; what++) {
            int w = what;
            Check.beyond("ofSale's sale of none", OasisBooks::new, (x, n) -> x.ofSale(n, w), 0, -1, Check.INDEX);
            Check.beyond("ofSale's sale of one", AskTest::full, (x, n) -> x.ofSale(n, w), 0, 0, Check.INDEX);
            Check.beyond("ofSale's sale of 8", Given::eightSales, (x, n) -> x.ofSale(n, w), 0, 7, Check.INDEX);
        }
        for (int sale = 0; sale < 8; sale++) {
            Check.due("kilos of the sale " + sale, Given.eightSales().ofSale(sale, 2), sale + 1);
        }
    }

    private static void saleWhatRange() {
        OasisBooks x = full();
        x.ahead(1, 3, 999, 0);
        Check.due("ofSale()", Look.sales(x), Look.text(0, 1, 77) + Look.text(1, 3, 999));
        Check.beyond("ofSale's what", AskTest::full, (y, n) -> y.ofSale(0, n), 0, 2, Check.ARGUMENT);
    }

    private static void saleIndexFirst() {
        for (int sale : new int[] {-1, 1, 8, Integer.MAX_VALUE, Integer.MIN_VALUE}) {
            for (int what : new int[] {-1, 3}) {
                Check.leaves("ofSale(" + sale + ", " + what + ")", AskTest::full, x -> x.ofSale(sale, what),
                    Check.INDEX);
            }
        }
    }

    private static void manyRange() {
        Check.range("many", AskTest::full, (x, n) -> x.many(n), 0, "8", 15, "124");
        Check.range("many of a new one", OasisBooks::new, (x, n) -> x.many(n), 0, "0", 15, "0");
    }

    private static void manyEach() {
        Check.due("many(0 to 15)", Look.many(full()),
            Look.text(8, 8, 200, 11, 45, 3, 2, 3, 4, 3240, 2, 1, 35640, 327, 0, 124));
        Check.due("many(0 to 15) of 10 OWNERS with all they can have", Look.many(tenFullOwners()),
            Look.text(0, 0, 200, 12, 40, 0, 0, 10, 10, 0, 0, 0, 0, 0, 0, 99990));
    }

    private static OasisBooks tenFullOwners() {
        OasisBooks x = new OasisBooks();
        for (int owner = 0; owner < 10; owner++) {
            x.owner(504, 9999, 200, 20);
        }
        return x;
    }

    private static void coinsOfAllBelowZero() {
        OasisBooks x = Given.bowls(1, 0);
        x.dig(50);
        Check.due("COINS of all", x.many(15), -450);
    }

    private static void meanOfNone() {
        Check.due("without any", new OasisBooks().meanMoist(), 0.0);
        OasisBooks x = Given.until(new OasisBooks(), 70, 0);
        Check.due("without any on the DAY 70", x.meanMoist(), 0.0);
    }

    private static void meanOfOne() {
        OasisBooks x = Given.owners(new int[] {0, 0, 5, 0});
        Check.due("at first", x.meanMoist(), 50.0);
        Check.due("on the DAY 8", Given.until(x, 8, 0).meanMoist(), 2.0);
        Check.due("on the DAY 9", Given.until(x, 9, 0).meanMoist(), 0.0);
    }

    private static void meanIsNotRounded() {
        OasisBooks x = Given.owners(new int[] {0, 0, 0, 0}, new int[] {0, 0, 5, 0}, new int[] {0, 0, 0, 0});
        Check.due("of 50, 50 and 50", x.meanMoist(), 50.0);
        Check.due("of 50, 44 and 50", Given.until(x, 1, 0).meanMoist(), 48.0);
        x.owner(0, 0, 0, 0);
        Check.due("of 50, 44, 50 and 50", x.meanMoist(), 48.5);
        x.die(1, 2, 1);
        Check.due("of 50, three times 44, 50 and 50", x.meanMoist(), 47.0);
        x.owner(0, 0, 0, 0);
        Check.due("of four times 50 and three times 44", x.meanMoist(), 332.0 / 7);
    }

    private static void meanWithoutTheDead() {
        OasisBooks x = Given.owners(new int[] {0, 0, 5, 0}, new int[] {0, 0, 0, 0});
        Given.until(x, 8, 0);
        Check.due("of 2 and 50", x.meanMoist(), 26.0);
        x.die(1, 1, 0);
        Check.due("of 2 and an heir's 50", x.meanMoist(), 26.0);
        x.die(0, 0, 3);
        Check.due("of 50 and three times an heir's 2", x.meanMoist(), 14.0);
    }

    private static void askingChangesNothing() {
        OasisBooks x = full();
        String first = Look.at(x);
        Check.due("all, asked again", Look.at(x), first);
        x.pass(36, 9);
        OasisBooks y = full();
        y.pass(36, 9);
        Check.due("all behind 9 more DAYS", Look.many(x), Look.many(y));
    }

    public static void main(String[] args) {
        Check.that("promise 14: no such OWNER who lives", AskTest::nobodyIsAsked);
        Check.that("promise 14: what 0 to 13", AskTest::ofRange);
        Check.that("promise 14: IndexOutOfBounds goes first", AskTest::ofIndexFirst);
        Check.that("promise 14: each what", AskTest::ofEach);
        Check.that("promise 14: 8, NONE without BOWLS", AskTest::firstBowlOrNone);
        Check.that("promise 14: 7, the place in the ROW, from 0", AskTest::placeInTheRow);
        Check.that("promise 14: 9, BOWLS of which that OWNER is the USER", AskTest::usedBowls);
        Check.that("promise 15: bowl 0 to 5039", AskTest::bowlRange);
        Check.that("promise 15: what 0 or 1", AskTest::bowlWhatRange);
        Check.that("promise 15: IndexOutOfBounds goes first", AskTest::bowlIndexFirst);
        Check.that("promise 15: whose it is, its USER, NONE", AskTest::whoseAndUser);
        Check.that("promise 16: no such LOAN", AskTest::loanRange);
        Check.that("promise 16: what 0 to 3", AskTest::loanWhatRange);
        Check.that("promise 16: IndexOutOfBounds goes first", AskTest::loanIndexFirst);
        Check.that("promise 17: no such sale", AskTest::saleRange);
        Check.that("promise 17: what 0 to 2", AskTest::saleWhatRange);
        Check.that("promise 17: IndexOutOfBounds goes first", AskTest::saleIndexFirst);
        Check.that("promise 18: what 0 to 15", AskTest::manyRange);
        Check.that("promise 18: each what", AskTest::manyEach);
        Check.that("promise 18: COINS of all below 0", AskTest::coinsOfAllBelowZero);
        Check.that("promise 19: 0 without any", AskTest::meanOfNone);
        Check.that("promise 19: of one, 50 and 0", AskTest::meanOfOne);
        Check.that("promise 19: not rounded", AskTest::meanIsNotRounded);
        Check.that("promise 19: of OWNERS who live", AskTest::meanWithoutTheDead);
        Check.that("section 4: what one asks changes nothing", AskTest::askingChangesNothing);
        Check.end();
    }
}
