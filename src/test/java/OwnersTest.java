/** Promises 1 to 5: a new object, and OWNERS with their BOWLS, LOANS and deaths. */
public final class OwnersTest {
    private static final Class<IndexOutOfBoundsException> INDEX = IndexOutOfBoundsException.class;
    private static final Class<IllegalArgumentException> ARGUMENT = IllegalArgumentException.class;
    private static final Class<IllegalStateException> STATE = IllegalStateException.class;

    private OwnersTest() {
    }

    private static OasisBooks two(int bowls, int coins) {
        OasisBooks x = new OasisBooks();
        x.owner(bowls, coins, 0, 0);
        x.owner(bowls, coins, 0, 0);
        return x;
    }

    private static void promise1NewObject() {
        OasisBooks x = new OasisBooks();
        int[] want = {0, 0, 200, 12, 40, 0, 0, 0, 0, 5040, 0, 0, 0, 0, 0, 0};
        for (int what = 0; what < want.length; what++) {
            Check.due("new: many(" + what + ")", x.many(what), want[what]);
        }
        Check.due("new: meanMoist()", x.meanMoist(), 0.0);
        Check.due("new: ofBowl(0, 0)", x.ofBowl(0, 0), -1);
        Check.due("new: ofBowl(5039, 1)", x.ofBowl(5039, 1), -1);
        Check.refuses(x, INDEX, "new: of(0, 0)", () -> x.of(0, 0));
        Check.refuses(x, INDEX, "new: ofLoan(0, 0)", () -> x.ofLoan(0, 0));
        Check.refuses(x, INDEX, "new: ofSale(0, 0)", () -> x.ofSale(0, 0));
        x.owner(100, 1, 1, 1);
        x.pass(10, 5);
        Check.due("another new one: many(9)", new OasisBooks().many(9), 5040);
        Check.due("another new one: many(0)", new OasisBooks().many(0), 0);
    }

    private static void promise2Owner() {
        OasisBooks x = new OasisBooks();
        Check.due("owner(30, 9999, 200, 20)", x.owner(30, 9999, 200, 20), 0);
        int[] want = {30, 9999, 200, 20, 50, 0, 0, 0, 0, 30, 0, 400, 0, 0};
        for (int what = 0; what < want.length; what++) {
            Check.due("of(0, " + what + ")", x.of(0, what), want[what]);
        }
        Check.due("owner(0, 0, 0, 0)", x.owner(0, 0, 0, 0), 1);
        Check.due("of(1, 8) without BOWLS", x.of(1, 8), -1);
        Check.refuses(x, STATE, "owner(5011, ..)", () -> x.owner(5011, 0, 0, 0));
        Check.due("owner(5010, ..)", x.owner(5010, 0, 0, 0), 2);
        Check.due("of(2, 7)", x.of(2, 7), 2);
        Check.due("of(2, 8)", x.of(2, 8), 30);
        Check.due("many(9)", x.many(9), 0);
        for (int number = 3; number < 10; number++) {
            Check.due("owner " + number, x.owner(0, number, 0, 0), number);
        }
        Check.refuses(x, STATE, "an 11th owner", () -> x.owner(0, 0, 0, 0));
        Check.due("the whole CYCLE", new OasisBooks().owner(5040, 0, 0, 0), 0);
        OasisBooks y = new OasisBooks();
        y.owner(1, 0, 0, 0);
        y.owner(1, 0, 0, 0);
        Check.due("of(1, 8) with one BOWL", y.of(1, 8), 1);
    }

    private static void promise2Wrong(OasisBooks x) {
        int[][] wrong = {{-1, 0, 0, 0}, {5041, 0, 0, 0}, {0, -1, 0, 0}, {0, 10000, 0, 0}, {0, 0, -1, 0},
            {0, 0, 201, 0}, {0, 0, 0, -1}, {0, 0, 0, 21}, {Integer.MIN_VALUE, 0, 0, 0},
            {Integer.MAX_VALUE, 0, 0, 0}};
        for (int[] w : wrong) {
            Check.refuses(x, ARGUMENT, "owner" + java.util.Arrays.toString(w),
                () -> x.owner(w[0], w[1], w[2], w[3]));
        }
    }

    private static void promise3Sell() {
        OasisBooks x = two(100, 50);
        Check.due("sell(0, 1, 40, 50)", x.sell(0, 1, 40, 50), 140);
        Check.due("seller's BOWLS", x.of(0, 0), 60);
        Check.due("seller's COINS", x.of(0, 1), 100);
        Check.due("buyer's COINS", x.of(1, 1), 0);
        Check.due("buyer's first BOWL", x.of(1, 8), 60);
        Check.denies(x, -3, "sell without a COIN", () -> x.sell(0, 1, 1, 1));
        Check.due("sell for 0 COINS", x.sell(0, 1, 1, 0), 141);
        Check.denies(x, -2, "sell(0, 1, 60, 0)", () -> x.sell(0, 1, 60, 0));
        Check.denies(x, -2, "-2 goes ahead of -3", () -> x.sell(0, 1, 60, 1));
        x.lend(0, 1, 9, 1);
        Check.denies(x, -2, "sell a lent one", () -> x.sell(0, 1, 51, 0));
        Check.due("sell all but the lent", x.sell(0, 1, 50, 0), 191);
        Check.due("the lent are left", x.of(0, 0), 9);
        x.dig(1);
        Check.due("COINS below 0", x.of(1, 1), -8);
        Check.denies(x, -2, "of several numbers -2", () -> x.sell(0, 1, 1, 0));
        x.pass(0, 7);
        Check.denies(x, -3, "sell for 0 to one below 0 COINS", () -> x.sell(0, 1, 1, 0));
    }

    private static void promise3Wrong() {
        OasisBooks x = two(2520, 9999);
        int[][] nobody = {{-1, 0}, {0, -1}, {2, 0}, {0, 2}, {9, 9}, {0, 10}, {Integer.MAX_VALUE, 0},
            {0, Integer.MIN_VALUE}};
        for (int[] w : nobody) {
            Check.refuses(x, INDEX, "sell" + java.util.Arrays.toString(w), () -> x.sell(w[0], w[1], 0, -1));
        }
        int[][] wrong = {{0, 0, 1, 0}, {0, 1, 0, 0}, {0, 1, -1, 0}, {0, 1, 5041, 0}, {0, 1, 1, -1},
            {0, 1, 1, 10000}};
        for (int[] w : wrong) {
            Check.refuses(x, ARGUMENT, "sell" + java.util.Arrays.toString(w),
                () -> x.sell(w[0], w[1], w[2], w[3]));
        }
        Check.denies(x, -2, "sell(0, 1, 5040, 0)", () -> x.sell(0, 1, 5040, 0));
        Check.due("sell(0, 1, 2520, 9999)", x.sell(0, 1, 2520, 9999), 5040);
    }

    private static void promise4Lend() {
        OasisBooks x = two(10, 0);
        x.owner(5, 0, 0, 0);
        Check.due("lend(0, 1, 3, 1)", x.lend(0, 1, 3, 1), 1);
        Check.due("lend(0, 2, 4, 20)", x.lend(0, 2, 4, 20), 2);
        int[] users = {0, 0, 0, 2, 2, 2, 2, 1, 1, 1, 1};
        for (int bowl = 0; bowl < users.length; bowl++) {
            Check.due("USER of " + bowl, x.ofBowl(bowl, 1), users[bowl]);
            Check.due("OWNER of " + bowl, x.ofBowl(bowl, 0), bowl < 10 ? 0 : 1);
        }
        Check.due("used by 0", x.of(0, 9), 3);
        Check.due("used by 1", x.of(1, 9), 13);
        Check.due("used by 2", x.of(2, 9), 9);
        Check.denies(x, -2, "lend(0, 1, 4, 1)", () -> x.lend(0, 1, 4, 1));
        Check.denies(x, -2, "what one uses is not his to lend", () -> x.lend(1, 0, 11, 1));
        Check.due("lend(0, 1, 3, 2)", x.lend(0, 1, 3, 2), 3);
        Check.due("used by 0", x.of(0, 9), 0);
        x.pass(0, 6);
        Check.due("LOANS on DAY 6", x.many(10), 3);
        x.pass(0, 1);
        Check.due("LOANS on DAY 7", x.many(10), 2);
        Check.due("moved up: USER of 9", x.ofBowl(9, 1), 2);
        Check.due("moved up: USER of 5", x.ofBowl(5, 1), 1);
        Check.due("moved up: USER of 2", x.ofBowl(2, 1), 0);
        Check.due("CYCLES left of the first", x.ofLoan(0, 3), 19);
        Check.due("CYCLES left of the second", x.ofLoan(1, 3), 1);
    }

    private static void promise4Wrong() {
        OasisBooks x = two(2520, 0);
        for (int[] w : new int[][] {{-1, 0}, {0, -1}, {2, 0}, {0, 2}, {7, 7}}) {
            Check.refuses(x, INDEX, "lend" + java.util.Arrays.toString(w), () -> x.lend(w[0], w[1], 0, 0));
        }
        int[][] wrong = {{0, 0, 1, 1}, {0, 1, 0, 1}, {0, 1, 5041, 1}, {0, 1, 1, 0}, {0, 1, 1, 21}, {0, 1, -1, 1},
            {0, 1, 1, -1}};
        for (int[] w : wrong) {
            Check.refuses(x, ARGUMENT, "lend" + java.util.Arrays.toString(w),
                () -> x.lend(w[0], w[1], w[2], w[3]));
        }
        for (int loan = 1; loan <= 8; loan++) {
            Check.due("LOAN " + loan, x.lend(1, 0, loan, 3), loan);
        }
        Check.due("BOWLS of the 8th LOAN", x.ofLoan(7, 2), 8);
        Check.due("CYCLES of the 8th LOAN", x.ofLoan(7, 3), 3);
        Check.due("used by LOANS", x.of(0, 9), 2520 + 36);
        Check.refuses(x, STATE, "a 9th LOAN", () -> x.lend(1, 0, 1, 1));
        Check.refuses(x, STATE, "a 9th LOAN of too many", () -> x.lend(1, 0, 5040, 1));
        Check.refuses(x, ARGUMENT, "a 9th LOAN to oneself", () -> x.lend(1, 1, 1, 1));
        Check.refuses(x, INDEX, "a 9th LOAN to nobody", () -> x.lend(1, 5, 1, 1));
    }

    private static void promise5Parts() {
        OasisBooks x = new OasisBooks();
        x.owner(0, 100, 0, 0);
        x.owner(13, 0, 11, 3);
        x.owner(26, 0, 0, 0);
        x.dig(2);
        x.fall(1);
        x.clean(1);
        Check.due("COINS below 0", x.of(1, 1), -7);
        x.pass(0, 1);
        Check.due("die(1, 2, 1)", x.die(1, 2, 1), 3);
        int[][] want = {{6, -2, 5, 2, 44, 0, 0, 1, 0, 6, 0, 40, 0, 0},
            {5, -3, 4, 1, 44, 0, 0, 2, 6, 5, 0, 20, 0, 0},
            {2, -2, 2, 0, 44, 0, 0, 3, 11, 2, 0, 0, 0, 0}};
        for (int heir = 0; heir < 3; heir++) {
            for (int what = 0; what < 14; what++) {
                Check.due("of(" + (3 + heir) + ", " + what + ")", x.of(3 + heir, what), want[heir][what]);
            }
        }
        Check.due("who stood behind stands behind", x.of(2, 7), 4);
        Check.due("who stood behind: first BOWL", x.of(2, 8), 13);
        Check.due("OWNERS who live", x.many(7), 5);
        Check.due("OWNERS ever", x.many(8), 6);
        Check.refuses(x, INDEX, "the dead one", () -> x.of(1, 0));
        Check.refuses(x, INDEX, "the dead one dies", () -> x.die(1, 1, 0));
        Check.due("a new one", x.owner(1, 0, 0, 0), 6);
        Check.due("a new one comes last", x.of(6, 7), 5);
    }

    private static void promise5WhatGoesOver() {
        OasisBooks x = new OasisBooks();
        x.owner(5040, 40, 20, 1);
        x.owner(0, 300, 0, 1);
        x.owner(0, 0, 0, 0);
        x.pollinate(0, 15);
        x.pass(30, 60);
        Check.due("SALT of the one to die", x.of(0, 5), 60);
        Check.due("MOIST of the one to die", x.of(0, 4), 93);
        Check.due("DATES of the one to die", x.of(0, 6), 55);
        x.pass(30, 10);
        x.pollen(1, 0, 5);
        x.pollinate(0, 20);
        x.lend(0, 1, 5, 9);
        x.lend(0, 2, 5, 9);
        x.lend(1, 2, 1, 9);
        x.ahead(0, 1, 7, 1);
        x.ahead(1, 0, 8, 1);
        x.ahead(1, 2, 9, 0);
        Check.due("die(0, 0, 2)", x.die(0, 0, 2), 3);
        int[][] want = {{2520, 18, 10, 1, 93, 70, 28, 0, 0, 2520, 0, 20, 0, 0},
            {2520, 17, 10, 0, 93, 70, 27, 1, 2520, 2520, 0, 0, 0, 0}};
        for (int heir = 0; heir < 2; heir++) {
            for (int what = 0; what < 14; what++) {
                Check.due("of(" + (3 + heir) + ", " + what + ")", x.of(3 + heir, what), want[heir][what]);
            }
        }
        Check.due("LOANS end", x.many(10), 0);
        Check.due("sales stay", x.many(11), 3);
        int[][] sales = {{3, 1, 7}, {1, 3, 8}, {1, 2, 9}};
        for (int sale = 0; sale < 3; sale++) {
            for (int what = 0; what < 3; what++) {
                Check.due("ofSale(" + sale + ", " + what + ")", x.ofSale(sale, what), sales[sale][what]);
            }
        }
    }

    private static void promise5LoansOfOthersStay() {
        OasisBooks x = two(10, 0);
        x.owner(10, 0, 0, 0);
        x.lend(0, 1, 1, 2);
        x.lend(0, 2, 2, 3);
        x.lend(1, 0, 3, 4);
        x.die(1, 0, 4);
        Check.due("LOANS left", x.many(10), 1);
        int[] want = {0, 2, 2, 3};
        for (int what = 0; what < 4; what++) {
            Check.due("ofLoan(0, " + what + ")", x.ofLoan(0, what), want[what]);
        }
        Check.due("the last BOWL moves up", x.ofBowl(9, 1), 2);
        int[] bowls = {3, 3, 2, 2};
        for (int heir = 0; heir < 4; heir++) {
            Check.due("a DAUGHTER's BOWLS", x.of(3 + heir, 0), bowls[heir]);
            Check.due("a DAUGHTER's place", x.of(3 + heir, 7), 1 + heir);
        }
    }

    private static void promise5FirstLoanStays() {
        OasisBooks x = two(10, 0);
        x.owner(10, 0, 0, 0);
        x.lend(2, 0, 1, 2);
        x.lend(1, 0, 2, 3);
        x.lend(0, 2, 3, 4);
        x.die(1, 1, 0);
        Check.due("LOANS left", x.many(10), 2);
        int[][] want = {{2, 0, 1, 2}, {0, 2, 3, 4}};
        for (int loan = 0; loan < 2; loan++) {
            for (int what = 0; what < 4; what++) {
                Check.due("ofLoan(" + loan + ", " + what + ")", x.ofLoan(loan, what), want[loan][what]);
            }
        }
    }

    private static void promise5Wrong() {
        OasisBooks x = two(10, 0);
        for (int number : new int[] {-1, 2, 10, Integer.MAX_VALUE}) {
            Check.refuses(x, INDEX, "die(" + number + ", 0, 0)", () -> x.die(number, 0, 0));
        }
        int[][] wrong = {{0, 0}, {5, 0}, {0, 5}, {3, 2}, {-1, 2}, {2, -1}, {Integer.MAX_VALUE, Integer.MAX_VALUE},
            {Integer.MIN_VALUE, Integer.MIN_VALUE}, {Integer.MAX_VALUE, Integer.MIN_VALUE}};
        for (int[] w : wrong) {
            Check.refuses(x, ARGUMENT, "die(0, " + w[0] + ", " + w[1] + ")", () -> x.die(0, w[0], w[1]));
        }
        x.die(0, 4, 0);
        x.die(2, 1, 0);
        Check.due("OWNERS ever", x.many(8), 7);
        Check.refuses(x, STATE, "11 OWNERS ever", () -> x.die(3, 2, 2));
        Check.refuses(x, ARGUMENT, "5 heirs of too many", () -> x.die(3, 3, 2));
        Check.due("10 OWNERS ever", x.die(3, 1, 2), 7);
        Check.refuses(x, STATE, "one heir more", () -> x.die(4, 0, 1));
        Check.refuses(x, STATE, "one OWNER more", () -> x.owner(0, 0, 0, 0));
    }

    public static void main(String[] args) {
        promise1NewObject();
        promise2Owner();
        promise2Wrong(new OasisBooks());
        OasisBooks full = new OasisBooks();
        for (int i = 0; i < 10; i++) {
            full.owner(504, 0, 0, 0);
        }
        promise2Wrong(full);
        promise3Sell();
        promise3Wrong();
        promise4Lend();
        promise4Wrong();
        promise5Parts();
        promise5WhatGoesOver();
        promise5LoansOfOthersStay();
        promise5FirstLoanStays();
        promise5Wrong();
        Check.end();
    }
}
