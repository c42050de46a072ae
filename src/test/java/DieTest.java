/** Promise 5, and the deaths of section 2. */
public final class DieTest {
    private DieTest() {
    }

    /** The parts that heirs have of a whole: BOWLS are shared as COINS, PALMS, MALES and DATES are. */
    private static void parts(int what, int whole, int sons, int daughters, int... want) {
        int[] goods = new int[4];
        goods[what] = whole;
        OasisBooks x = Given.owners(goods);
        x.die(0, sons, daughters);
        heirsHave(x, what, whole + " for " + sons + " SONS, " + daughters + " DAUGHTERS", want);
    }

    private static void heirsHave(OasisBooks x, int what, String whole, int... want) {
        int[] got = new int[want.length];
        for (int heir = 0; heir < want.length; heir++) {
            got[heir] = x.of(x.many(8) - want.length + heir, what);
        }
        Check.due("parts " + what + " of " + whole, Look.text(got), Look.text(want));
    }

    private static void nobodyDies() {
        Check.nobody("die's owner", (x, n) -> x.die(n, 1, 0));
    }

    private static void deadOnesAreNone() {
        for (int what = 0; what < 14; what++) {
            int w = what;
            Check.leaves("of(1, " + w + ") of a dead one", Given::oneDead, x -> x.of(1, w), Check.INDEX);
        }
        Check.leaves("a second death", Given::oneDead, x -> x.die(1, 1, 0), Check.INDEX);
    }

    private static void sonsBelowZero() {
        for (int sons : new int[] {-1, -2, -4, Integer.MIN_VALUE}) {
            for (int daughters : new int[] {0, 2, 4, 5, Integer.MAX_VALUE, -sons + 1, -sons + 4}) {
                Check.leaves("die(0, " + sons + ", " + daughters + ")", Given::oneDead,
                    x -> x.die(0, sons, daughters), Check.ARGUMENT);
            }
        }
        Check.due("no SONS", Given.oneDead().die(0, 0, 1), 4);
    }

    private static void daughtersBelowZero() {
        for (int daughters : new int[] {-1, -2, -4, Integer.MIN_VALUE}) {
            for (int sons : new int[] {0, 2, 4, 5, Integer.MAX_VALUE, -daughters + 1, -daughters + 4}) {
                Check.leaves("die(0, " + sons + ", " + daughters + ")", Given::oneDead,
                    x -> x.die(0, sons, daughters), Check.ARGUMENT);
            }
        }
        Check.due("no DAUGHTERS", Given.oneDead().die(0, 1, 0), 4);
    }

    private static void oneToFourTogether() {
        for (int sons = 0; sons <= 6; sons++) {
            for (int daughters = 0; daughters <= 6; daughters++) {
                int s = sons;
                int d = daughters;
                String call = "die(0, " + s + ", " + d + ")";
                if (s + d >= 1 && s + d <= 4) {
                    OasisBooks x = Given.oneDead();
                    Check.due(call, x.die(0, s, d), 4);
                    Check.due("OWNERS ever behind " + call, x.many(8), 4 + s + d);
                    Check.due("OWNERS who live behind " + call, x.many(7), 2 + s + d);
                } else {
                    Check.leaves(call, Given::oneDead, x -> x.die(0, s, d), Check.ARGUMENT);
                }
            }
        }
    }

    private static void togetherWrapAround() {
        int[] much = {Integer.MAX_VALUE, Integer.MAX_VALUE - 1, Integer.MIN_VALUE, Integer.MIN_VALUE + 1, 1 << 30};
        for (int sons : much) {
            for (int daughters : new int[] {0, 1, 4, 5, Integer.MAX_VALUE, Integer.MIN_VALUE, 1 << 30, 4 - sons}) {
                Check.leaves("die(0, " + sons + ", " + daughters + ")", Given::oneDead,
                    x -> x.die(0, sons, daughters), Check.ARGUMENT);
                Check.leaves("die(0, " + daughters + ", " + sons + ")", Given::oneDead,
                    x -> x.die(0, daughters, sons), Check.ARGUMENT);
            }
        }
    }

    private static OasisBooks sevenEver() {
        OasisBooks x = Given.bowls(50, 40, 30);
        x.die(1, 2, 2);
        return x;
    }

    private static void tenEver() {
        OasisBooks x = sevenEver();
        Check.due("heirs 7, 8 and 9", x.die(0, 1, 2), 7);
        Check.due("OWNERS ever", x.many(8), 10);
        for (int[] heirs : new int[][] {{4, 0}, {2, 2}, {0, 4}, {3, 1}}) {
            Check.leaves("to 11 ever", DieTest::sevenEver, y -> y.die(0, heirs[0], heirs[1]), Check.STATE);
        }
        Check.leaves("one heir where there were 10", Given::tenOwners, y -> y.die(0, 1, 0), Check.STATE);
        Check.leaves("a DAUGHTER where there were 10", Given::tenOwners, y -> y.die(9, 0, 1), Check.STATE);
        OasisBooks six = Given.bowls(1, 1, 1, 1, 1, 1);
        Check.due("4 heirs where there were 6", six.die(5, 2, 2), 6);
    }

    private static void indexFirst() {
        Check.leaves("nobody without heirs", Given::oneDead, x -> x.die(9, 0, 0), Check.INDEX);
        Check.leaves("a dead one with 5 heirs", Given::oneDead, x -> x.die(1, 5, 0), Check.INDEX);
        Check.leaves("nobody with -1 SONS", Given::oneDead, x -> x.die(-1, -1, 2), Check.INDEX);
        Check.leaves("nobody, to 11 ever", DieTest::sevenEver, x -> x.die(7, 2, 2), Check.INDEX);
        Check.leaves("nobody where there were 10", Given::tenOwners, x -> x.die(10, 1, 0), Check.INDEX);
    }

    private static void argumentBeforeState() {
        for (int[] heirs : new int[][] {{0, 0}, {5, 0}, {0, 5}, {-1, 5}, {5, -1}, {3, 2}}) {
            Check.leaves("die(0, " + heirs[0] + ", " + heirs[1] + ") where there were 10", Given::tenOwners,
                x -> x.die(0, heirs[0], heirs[1]), Check.ARGUMENT);
        }
    }

    private static void roundedDownAndLeftOver() {
        parts(0, 13, 2, 1, 6, 5, 2);
        parts(0, 11, 2, 1, 5, 4, 2);
        parts(0, 7, 1, 3, 3, 2, 1, 1);
        parts(0, 4, 1, 3, 2, 1, 1, 0);
        parts(1, 9999, 2, 2, 3334, 3333, 1666, 1666);
        parts(2, 199, 0, 4, 50, 50, 50, 49);
        parts(3, 20, 3, 0, 7, 7, 6);
        parts(0, 5040, 4, 0, 1260, 1260, 1260, 1260);
        parts(0, 5039, 4, 0, 1260, 1260, 1260, 1259);
        parts(0, 5037, 4, 0, 1260, 1259, 1259, 1259);
    }

    private static void lessThanHeirs() {
        for (int what = 0; what < 4; what++) {
            parts(what, 0, 2, 2, 0, 0, 0, 0);
            parts(what, 1, 0, 4, 1, 0, 0, 0);
            parts(what, 2, 0, 4, 1, 1, 0, 0);
            parts(what, 3, 0, 4, 1, 1, 1, 0);
            parts(what, 1, 1, 1, 1, 0);
            parts(what, 1, 4, 0, 1, 0, 0, 0);
        }
    }

    private static void allToOne() {
        for (int what = 0; what < 4; what++) {
            parts(what, 17, 1, 0, 17);
            parts(what, 17, 0, 1, 17);
        }
    }

    private static void coinsBelowZero(int coins, int sons, int daughters, int... want) {
        OasisBooks x = Given.paidThree(coins + 3);
        x.die(0, sons, daughters);
        heirsHave(x, 1, coins + " COINS", want);
    }

    private static void roundedDownBelowZero() {
        coinsBelowZero(-1, 1, 0, -1);
        coinsBelowZero(-1, 0, 1, -1);
        coinsBelowZero(-1, 0, 4, 0, 0, 0, -1);
        coinsBelowZero(-1, 2, 1, 0, 0, -1);
        coinsBelowZero(-2, 0, 2, -1, -1);
        coinsBelowZero(-3, 2, 0, -1, -2);
        coinsBelowZero(-3, 1, 1, -2, -1);
        coinsBelowZero(-3, 0, 4, 0, -1, -1, -1);
        coinsBelowZero(0, 2, 2, 0, 0, 0, 0);
    }

    private static void farBelowZero() {
        OasisBooks x = Given.bowls(1, 0);
        x.dig(50);
        x.die(0, 2, 1);
        heirsHave(x, 1, "-450 COINS", -180, -180, -90);
        OasisBooks y = Given.bowls(13, 26, 0);
        y.dig(2);
        y.die(0, 2, 1);
        heirsHave(y, 1, "-6 COINS", -2, -2, -2);
    }

    private static void datesAreShared() {
        OasisBooks x = Given.owners(new int[] {5040, 0, 20, 1});
        x.pollinate(0, 15);
        Given.until(x, 60, 30);
        Check.due("DATES", x.of(0, 6), 55);
        x.die(0, 1, 1);
        heirsHave(x, 6, "55 DATES", 37, 18);
    }

    private static void placeInTheRow() {
        for (int dead = 0; dead < 3; dead++) {
            OasisBooks x = Given.bowls(10, 20, 30);
            x.die(dead, 1, 2);
            int[] row = new int[5];
            for (int owner = 0; owner < 6; owner++) {
                if (owner != dead) {
                    row[x.of(owner, 7)] = owner;
                }
            }
            int[][] want = {{3, 4, 5, 1, 2}, {0, 3, 4, 5, 2}, {0, 1, 3, 4, 5}};
            Check.due("the ROW behind the death of " + dead, Look.text(row), Look.text(want[dead]));
            int first = x.of(3, 8);
            Check.due("the first heir's first BOWL", first, new int[] {0, 10, 30}[dead]);
            Check.due("the second heir's first BOWL", x.of(4, 8), first + x.of(3, 0));
            Check.due("the third heir's first BOWL", x.of(5, 8), first + x.of(3, 0) + x.of(4, 0));
            Check.due("COMMON", x.many(9), 4980);
        }
    }

    private static void sonsFirst() {
        OasisBooks x = Given.bowls(60);
        Check.due("the first heir", x.die(0, 2, 2), 1);
        int[] bowls = {20, 20, 10, 10};
        for (int heir = 1; heir <= 4; heir++) {
            Check.due("BOWLS of the heir " + heir, x.of(heir, 0), bowls[heir - 1]);
            Check.due("place of the heir " + heir, x.of(heir, 7), heir - 1);
        }
    }

    private static void heirsOfHeirs() {
        OasisBooks x = Given.bowls(100, 10);
        x.die(0, 2, 0);
        Check.due("the next heirs", x.die(3, 0, 2), 4);
        Check.due("then a new one", x.owner(1, 0, 0, 0), 6);
        int[][] want = {{2, 0, 50}, {4, 1, 25}, {5, 2, 25}, {1, 3, 10}, {6, 4, 1}};
        for (int[] w : want) {
            Check.due("place of " + w[0], x.of(w[0], 7), w[1]);
            Check.due("BOWLS of " + w[0], x.of(w[0], 0), w[2]);
        }
    }

    /** On the DAY 60 a SALT of 60 and a MOIST of 93; PALMS are POLLINATED again on the DAY 70. */
    private static OasisBooks fullLife() {
        OasisBooks x = Given.owners(new int[] {5040, 40, 20, 1}, new int[] {0, 300, 0, 1}, new int[] {0, 0, 0, 0});
        x.pollinate(0, 15);
        Given.until(x, 70, 30);
        x.pollen(1, 0, 5);
        x.pollinate(0, 20);
        return x;
    }

    private static void whatHeirsHave() {
        OasisBooks x = fullLife();
        Check.due("litres that came to the dead one", x.of(0, 12) > 0, true);
        x.die(0, 0, 2);
        Check.owner(x, 3, 2520, 18, 10, 1, 93, 70, 28, 0, 0, 2520, 0, 20, 0, 0);
        Check.owner(x, 4, 2520, 17, 10, 0, 93, 70, 27, 1, 2520, 2520, 0, 0, 0, 0);
    }

    private static void pollenByMalesOnly() {
        OasisBooks x = Given.owners(new int[] {0, 9, 30, 2}, new int[] {0, 9, 30, 2});
        x.pollen(0, 1, 7);
        x.die(0, 1, 0);
        x.die(1, 1, 0);
        Check.due("behind the death of who had sold", x.of(2, 11), 40);
        Check.due("behind the death of who had bought", x.of(3, 11), 40);
        Check.due("all of it is used", x.pollinate(2, 30), 30);
    }

    private static void litresOfAllStay() {
        OasisBooks x = fullLife();
        int lost = x.many(13);
        int letOut = x.many(12);
        int harvested = x.many(14);
        x.die(0, 2, 1);
        Check.due("LOST ever", x.many(13), lost);
        Check.due("LET OUT ever", x.many(12), letOut);
        Check.due("DATES harvested ever", x.many(14), harvested);
        Check.due("COINS of all", x.many(15), 340);
    }

    private static void loansEnd() {
        OasisBooks x = Given.bowls(10, 10, 10);
        x.lend(0, 1, 1, 2);
        x.lend(1, 0, 2, 3);
        x.lend(2, 1, 3, 4);
        x.lend(1, 2, 4, 5);
        x.die(1, 1, 0);
        Check.due("LOANS", x.many(10), 0);
        for (int owner : new int[] {0, 3, 2}) {
            Check.due("used by " + owner, x.of(owner, 9), 10);
        }
        Check.due("all can be lent", x.lend(3, 0, 10, 1), 1);
    }

    private static void otherLoansStay() {
        OasisBooks x = Given.bowls(10, 10, 10);
        x.lend(2, 0, 1, 2);
        x.lend(1, 0, 2, 3);
        x.lend(0, 1, 3, 4);
        x.lend(0, 2, 4, 5);
        x.die(1, 1, 1);
        Check.due("ofLoan()", Look.loans(x), Look.text(2, 0, 1, 2) + Look.text(0, 2, 4, 5));
        Check.due("USER of the BOWL 9, moved up", x.ofBowl(9, 1), 2);
        Check.due("USER of the BOWL 6", x.ofBowl(6, 1), 2);
        Check.due("USER of the BOWL 5", x.ofBowl(5, 1), 0);
        Check.due("USER of the BOWL 29", x.ofBowl(29, 1), 0);
    }

    private static void salesOfTheFirstHeir() {
        OasisBooks x = Given.bowls(1, 1, 1);
        x.ahead(0, 1, 7, 0);
        x.ahead(1, 0, 8, 0);
        x.ahead(1, 2, 9, 0);
        x.ahead(2, 0, 10, 0);
        x.die(0, 1, 1);
        Check.due("ofSale()", Look.sales(x),
            Look.text(3, 1, 7) + Look.text(1, 3, 8) + Look.text(1, 2, 9) + Look.text(2, 3, 10));
        x.die(3, 0, 1);
        x.die(1, 1, 0);
        Check.due("ofSale() of heirs of heirs", Look.sales(x),
            Look.text(5, 6, 7) + Look.text(6, 5, 8) + Look.text(6, 2, 9) + Look.text(2, 5, 10));
    }

    private static void salesAreDeliveredByTheHeir() {
        OasisBooks x = Given.bowls(0, 0);
        x.ahead(0, 1, 7, 0);
        x.die(0, 1, 1);
        Given.until(x, 60, 0);
        Check.due("COINS of the first heir", x.of(2, 1), -14);
        Check.due("COINS of the other heir", x.of(3, 1), 0);
        Check.due("COINS of the buyer", x.of(1, 1), 14);
    }

    private static void theOnlyOne() {
        OasisBooks x = Given.owners(new int[] {5040, 9999, 200, 20});
        Check.due("the only one dies", x.die(0, 0, 1), 1);
        Check.owner(x, 1, 5040, 9999, 200, 20, 50, 0, 0, 0, 0, 5040, 0, 400, 0, 0);
        Check.due("OWNERS who live", x.many(7), 1);
        Check.due("OWNERS ever", x.many(8), 2);
        Check.due("meanMoist()", x.meanMoist(), 50.0);
    }

    public static void main(String[] args) {
        Check.that("promise 5: no such OWNER", DieTest::nobodyDies);
        Check.that("section 2: the dead one is no OWNER any more", DieTest::deadOnesAreNone);
        Check.that("promise 5: sons below 0", DieTest::sonsBelowZero);
        Check.that("promise 5: daughters below 0", DieTest::daughtersBelowZero);
        Check.that("promise 5: both together 1 to 4", DieTest::oneToFourTogether);
        Check.that("promise 5: both together do not wrap around", DieTest::togetherWrapAround);
        Check.that("promise 5: not more than 10 OWNERS ever", DieTest::tenEver);
        Check.that("promise 5: IndexOutOfBounds goes first", DieTest::indexFirst);
        Check.that("promise 5: IllegalArgument goes ahead of IllegalState", DieTest::argumentBeforeState);
        Check.that("section 2: rounded down, what is left over one by one", DieTest::roundedDownAndLeftOver);
        Check.that("section 2: less than there are heirs", DieTest::lessThanHeirs);
        Check.that("section 2: all to one heir", DieTest::allToOne);
        Check.that("section 2: rounded down also below 0", DieTest::roundedDownBelowZero);
        Check.that("section 2: COINS far below 0", DieTest::farBelowZero);
        Check.that("section 2: DATES", DieTest::datesAreShared);
        Check.that("section 2: in the place of the dead one", DieTest::placeInTheRow);
        Check.that("section 2: SONS first", DieTest::sonsFirst);
        Check.that("promise 5: the others have the next numbers", DieTest::heirsOfHeirs);
        Check.that("section 2: MOIST and SALT as those, none POLLINATED, no litres", DieTest::whatHeirsHave);
        Check.that("section 2: no pollen but by their MALES", DieTest::pollenByMalesOnly);
        Check.that("section 2: what came, was LOST and harvested ever", DieTest::litresOfAllStay);
        Check.that("section 2: LOANS that the dead one gave or used end", DieTest::loansEnd);
        Check.that("section 2: LOANS of others stay, and move up", DieTest::otherLoansStay);
        Check.that("section 2: sales AHEAD are of the first heir", DieTest::salesOfTheFirstHeir);
        Check.that("section 2: the first heir delivers", DieTest::salesAreDeliveredByTheHeir);
        Check.that("promise 5: the only OWNER", DieTest::theOnlyOne);
        Check.end();
    }
}
