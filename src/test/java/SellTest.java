/** Promise 3: BOWLS are sold. */
public final class SellTest {
    private SellTest() {
    }

    /** Two OWNERS with 10 BOWLS and 30 COINS each, and one with nothing. */
    private static OasisBooks three() {
        return Given.owners(new int[] {10, 30, 0, 0}, new int[] {10, 30, 0, 0}, new int[] {0, 0, 0, 0});
    }

    private static OasisBooks threeWithLoans() {
        OasisBooks x = three();
        x.lend(0, 1, 3, 1);
        x.lend(0, 2, 2, 2);
        return x;
    }

    private static void nobodySells() {
        Check.nobody("sell's from", (x, n) -> x.sell(n, n == 0 ? 2 : 0, 1, 0));
    }

    private static void nobodyBuys() {
        Check.nobody("sell's to", (x, n) -> x.sell(n == 0 ? 2 : 0, n, 1, 0));
    }

    private static void bothTheSame() {
        Check.leaves("from 0 to 0", SellTest::three, x -> x.sell(0, 0, 1, 0), Check.ARGUMENT);
        Check.leaves("from 2 to 2", SellTest::three, x -> x.sell(2, 2, 1, 0), Check.ARGUMENT);
    }

    private static void bowlsRange() {
        Check.range("sell's bowls", () -> Given.bowls(5040, 0), (x, n) -> x.sell(0, 1, n, 0), 1, "1", 5040, "5040");
    }

    private static void coinsRange() {
        Check.range("sell's coins", () -> Given.owners(new int[] {9, 0, 0, 0}, new int[] {0, 9999, 0, 0}),
            (x, n) -> x.sell(0, 1, 1, n), 0, "1", 9999, "1");
    }

    private static void whatIsDone() {
        OasisBooks x = three();
        Check.due("BOWLS of the buyer then", x.sell(0, 1, 4, 25), 14);
        Check.owner(x, 0, 6, 55, 0, 0, 50, 0, 0, 0, 0, 6, 0, 0, 0, 0);
        Check.owner(x, 1, 14, 5, 0, 0, 50, 0, 0, 1, 6, 14, 0, 0, 0, 0);
        Check.due("BOWLS of one who had none", x.sell(1, 2, 1, 0), 1);
        Check.due("his first BOWL", x.of(2, 8), 19);
        Check.due("COMMON", x.many(9), 5020);
    }

    private static void returnsOwnBowlsOnly() {
        OasisBooks x = threeWithLoans();
        Check.due("BOWLS of a buyer who uses 3 others", x.sell(0, 1, 1, 0), 11);
        x.lend(1, 2, 11, 1);
        Check.due("BOWLS of a buyer who has lent 11", x.sell(0, 1, 1, 0), 12);
    }

    private static void allOrOneMore() {
        OasisBooks x = three();
        Check.due("all 10", x.sell(0, 1, 10, 0), 20);
        Check.due("first BOWL of one without", x.of(0, 8), -1);
        Check.leaves("11 of 10", SellTest::three, y -> y.sell(0, 1, 11, 0), -2);
        Check.leaves("5040 of 10", SellTest::three, y -> y.sell(0, 1, 5040, 0), -2);
        Check.leaves("one of none", SellTest::three, y -> y.sell(2, 1, 1, 0), -2);
    }

    private static void lentOnesAreNotSold() {
        OasisBooks x = threeWithLoans();
        Check.due("all that are not lent", x.sell(0, 1, 5, 0), 15);
        Check.due("BOWLS left", x.of(0, 0), 5);
        Check.due("used of them", x.of(0, 9), 0);
        Check.due("one of the lent", Check.outcome(() -> x.sell(0, 1, 1, 0)), "-2");
        Check.leaves("one of the lent too", SellTest::threeWithLoans, y -> y.sell(0, 1, 6, 0), -2);
        Check.leaves("all with the lent", SellTest::threeWithLoans, y -> y.sell(0, 1, 10, 0), -2);
    }

    private static void lentOnesBehindTheirLoan() {
        OasisBooks x = Given.until(threeWithLoans(), 6, 0);
        Check.due("a lent one on the DAY 6", x.sell(0, 1, 6, 0), -2);
        x.pass(0, 1);
        Check.due("9 on the DAY 7, where 2 are lent", x.sell(0, 1, 9, 0), -2);
        Check.due("8 on the DAY 7", x.sell(0, 1, 8, 0), 18);
    }

    private static void usedOnesAreNotOwn() {
        Check.leaves("one that one only uses", SellTest::threeWithLoans, x -> x.sell(2, 0, 1, 0), -2);
        Check.leaves("11, where 10 are own and 3 are used", SellTest::threeWithLoans, x -> x.sell(1, 2, 11, 0), -2);
        Check.due("10 own ones", threeWithLoans().sell(1, 2, 10, 0), 10);
    }

    private static void lentOnesStayTheLast() {
        OasisBooks x = threeWithLoans();
        x.sell(0, 1, 4, 0);
        int[] users = {0, 2, 2, 1, 1, 1, 1};
        for (int bowl = 0; bowl < users.length; bowl++) {
            Check.due("USER of " + bowl, x.ofBowl(bowl, 1), users[bowl]);
        }
        Check.due("BOWL 5 is the seller's", x.ofBowl(5, 0), 0);
        Check.due("BOWL 6 is the buyer's", x.ofBowl(6, 0), 1);
    }

    private static void allCoinsOrOneMore() {
        OasisBooks x = three();
        Check.due("for all 30 COINS", x.sell(0, 1, 1, 30), 11);
        Check.due("COINS of the buyer", x.of(1, 1), 0);
        Check.due("COINS of the seller", x.of(0, 1), 60);
        Check.leaves("for 31 of 30 COINS", SellTest::three, y -> y.sell(0, 1, 1, 31), -3);
        Check.leaves("for 9999 of 30 COINS", SellTest::three, y -> y.sell(0, 1, 1, 9999), -3);
        Check.leaves("for 1 of 0 COINS", SellTest::three, y -> y.sell(0, 2, 1, 1), -3);
        Check.due("for 0 of 0 COINS", three().sell(0, 2, 1, 0), 1);
    }

    private static void belowZeroNotEvenZero() {
        for (int coins : new int[] {0, 2}) {
            OasisBooks x = Given.paidThree(coins);
            x.sell(0, 1, 1, 0);
            Check.due("with " + (coins - 3) + " COINS for 0", x.sell(1, 0, 1, 0), -3);
            Check.due("with " + (coins - 3) + " COINS for 1", x.sell(1, 0, 1, 1), -3);
            Check.due("BOWLS of the seller", x.of(1, 0), 1);
            Check.due("COINS", x.of(0, 1), coins - 3);
        }
        OasisBooks zero = Given.paidThree(3);
        zero.sell(0, 1, 1, 0);
        Check.due("with 0 COINS for 0", zero.sell(1, 0, 1, 0), 1);
    }

    private static void sellerBelowZero() {
        OasisBooks x = Given.paidThree(0);
        Check.due("a seller with -3 COINS", x.sell(0, 1, 1, 5), 1);
        Check.due("his COINS then", x.of(0, 1), 2);
        Check.due("the buyer's COINS then", x.of(1, 1), 0);
    }

    private static void indexFirst() {
        int[][] wrong = {{-1, -1, 0, -1}, {1, 1, 1, 0}, {0, 9, 0, 0}, {9, 0, 5041, 0}, {0, 1, 1, 10000},
            {4, 0, 5040, 9999}, {0, 4, 5040, 9999}};
        for (int[] w : wrong) {
            Check.leaves("sell with " + Look.text(w), Given::oneDead, x -> x.sell(w[0], w[1], w[2], w[3]),
                Check.INDEX);
        }
    }

    private static void argumentBeforeNumbers() {
        int[][] wrong = {{0, 0, 11, 31}, {0, 1, 5041, 31}, {0, 1, 11, 10000}, {2, 0, 0, 31}, {2, 0, 1, -1}};
        for (int[] w : wrong) {
            Check.leaves("sell with " + Look.text(w), SellTest::three, x -> x.sell(w[0], w[1], w[2], w[3]),
                Check.ARGUMENT);
        }
    }

    private static void unlentBeforeCoins() {
        Check.leaves("11 of 10 for 31 of 30", SellTest::three, x -> x.sell(0, 1, 11, 31), -2);
        Check.leaves("one of none for 31 of 30", SellTest::three, x -> x.sell(2, 0, 1, 31), -2);
    }

    public static void main(String[] args) {
        Check.that("promise 3: no such OWNER sells", SellTest::nobodySells);
        Check.that("promise 3: no such OWNER buys", SellTest::nobodyBuys);
        Check.that("promise 3: both are the same", SellTest::bothTheSame);
        Check.that("promise 3: bowls 1 to 5040", SellTest::bowlsRange);
        Check.that("promise 3: coins 0 to 9999", SellTest::coinsRange);
        Check.that("promise 3: BOWLS for COINS", SellTest::whatIsDone);
        Check.that("promise 3: returns the BOWLS of the buyer then", SellTest::returnsOwnBowlsOnly);
        Check.that("promise 3: -2, not so many", SellTest::allOrOneMore);
        Check.that("promise 3: -2, not so many that are not lent", SellTest::lentOnesAreNotSold);
        Check.that("promise 3: -2 until a LOAN ends", SellTest::lentOnesBehindTheirLoan);
        Check.that("promise 3: -2, used ones are not the seller's", SellTest::usedOnesAreNotOwn);
        Check.that("section 2: lent ones are the last ones, also behind a sale", SellTest::lentOnesStayTheLast);
        Check.that("promise 3: -3, not so many COINS", SellTest::allCoinsOrOneMore);
        Check.that("promise 3: -3, below 0 not even 0", SellTest::belowZeroNotEvenZero);
        Check.that("promise 3: a seller with COINS below 0", SellTest::sellerBelowZero);
        Check.that("promise 3: IndexOutOfBounds goes first", SellTest::indexFirst);
        Check.that("promise 3: IllegalArgument goes ahead of -2 and -3", SellTest::argumentBeforeNumbers);
        Check.that("promise 3: -2 goes ahead of -3", SellTest::unlentBeforeCoins);
        Check.end();
    }
}
