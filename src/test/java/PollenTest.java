/** Promises 10 and 11, and the pollen of section 3. */
public final class PollenTest {
    private PollenTest() {
    }

    /** With 50 PALMS and 2 MALES, with 10 and 1, with 200 and 20, and with PALMS alone, all with 30 COINS. */
    private static OasisBooks four() {
        return Given.owners(new int[] {0, 30, 50, 2}, new int[] {0, 30, 10, 1}, new int[] {0, 30, 200, 20},
            new int[] {0, 30, 10, 0});
    }

    private static OasisBooks pollinated(int... palms) {
        OasisBooks x = four();
        for (int owner = 0; owner < palms.length; owner++) {
            if (palms[owner] > 0) {
                x.pollinate(owner, palms[owner]);
            }
        }
        return x;
    }

    private static void nobodyPollinates() {
        Check.nobody("pollinate's owner", (x, n) -> x.pollinate(n, 1));
    }

    private static void palmsRange() {
        Check.range("pollinate's palms", () -> Given.owners(new int[] {0, 0, 200, 20}), (x, n) -> x.pollinate(0, n), 1,
            "1", 200, "200");
    }

    private static void howManyThen() {
        OasisBooks x = four();
        Check.due("one", x.pollinate(0, 1), 1);
        Check.due("3 more", x.pollinate(0, 3), 4);
        Check.due("of(0, 10)", x.of(0, 10), 4);
        Check.due("of(1, 10)", x.of(1, 10), 0);
        Check.due("pollen, used or not", x.of(0, 11), 40);
    }

    /** All PALMS stay alive: there is water on each DAY. */
    private static OasisBooks onDay(int day) {
        return Given.until(Given.owners(new int[] {5040, 0, 200, 20}), day, 30);
    }

    private static void datesOfPollen() {
        for (int day : new int[] {0, 1, 12, 13, 70, 71, 83, 140, 153}) {
            Check.due("on the DAY " + day, onDay(day).pollinate(0, 2), 2);
        }
        for (int day : new int[] {14, 15, 59, 60, 61, 69, 84, 139, 154}) {
            Check.leaves("on the DAY " + day, () -> onDay(day), x -> x.pollinate(0, 2), -2);
        }
    }

    private static void palmsOrOneMore() {
        Check.due("all 10 PALMS", four().pollinate(1, 10), 10);
        Check.leaves("11 of 10 PALMS", PollenTest::four, x -> x.pollinate(1, 11), -3);
        Check.leaves("200 of 10 PALMS", PollenTest::four, x -> x.pollinate(1, 200), -3);
        Check.due("the last of 10 PALMS", pollinated(0, 9).pollinate(1, 1), 10);
        Check.leaves("2 where 9 of 10 are", () -> pollinated(0, 9), x -> x.pollinate(1, 2), -3);
        Check.leaves("one where all are", () -> pollinated(0, 10), x -> x.pollinate(1, 1), -3);
        Check.leaves("one of no PALMS", () -> Given.owners(new int[] {1, 1, 0, 1}), x -> x.pollinate(0, 1), -3);
        Check.due("200 of 200", four().pollinate(2, 200), 200);
    }

    private static void pollenOrOneMore() {
        Check.due("all pollen of 2 MALES", four().pollinate(0, 40), 40);
        Check.leaves("41 by 2 MALES", PollenTest::four, x -> x.pollinate(0, 41), -4);
        Check.leaves("50 by 2 MALES", PollenTest::four, x -> x.pollinate(0, 50), -4);
        Check.due("the last of 40", pollinated(39).pollinate(0, 1), 40);
        Check.leaves("2 where 39 of 40 are", () -> pollinated(39), x -> x.pollinate(0, 2), -4);
        Check.leaves("one without MALES", PollenTest::four, x -> x.pollinate(3, 1), -4);
    }

    private static OasisBooks bought(int palms) {
        OasisBooks x = four();
        x.pollen(0, 3, palms);
        return x;
    }

    private static void boughtAndSoldPollen() {
        Check.due("what was bought", bought(6).pollinate(3, 6), 6);
        Check.leaves("one more than was bought", () -> bought(6), x -> x.pollinate(3, 7), -4);
        Check.due("what was not sold", bought(6).pollinate(0, 34), 34);
        Check.leaves("one that was sold", () -> bought(6), x -> x.pollinate(0, 35), -4);
    }

    private static void noneBehindAHarvest() {
        OasisBooks x = Given.owners(new int[] {5040, 9, 40, 2}, new int[] {0, 9, 10, 0});
        x.pollinate(0, 30);
        x.pollen(0, 1, 5);
        Given.until(x, 59, 36);
        Check.due("POLLINATED on the DATE 59", x.of(0, 10), 30);
        Check.due("pollen of the seller on the DATE 59", x.of(0, 11), 35);
        Check.due("pollen of the buyer on the DATE 59", x.of(1, 11), 5);
        x.pass(36, 1);
        Check.due("POLLINATED on the DATE 60", x.of(0, 10), 0);
        Check.due("pollen of the seller on the DATE 60", x.of(0, 11), 40);
        Check.due("pollen of the buyer on the DATE 60", x.of(1, 11), 0);
        Given.until(x, 70, 36);
        Check.due("all PALMS in the next YEAR", x.pollinate(0, 40), 40);
        Check.due("one without pollen in the next YEAR", x.pollinate(1, 1), -4);
    }

    private static void pollinateIndexFirst() {
        for (int palms : new int[] {0, -1, 201, Integer.MAX_VALUE}) {
            Check.leaves("nobody and palms " + palms, Given::oneDead, x -> x.pollinate(4, palms), Check.INDEX);
        }
        Check.leaves("nobody at the wrong time", () -> onDay(14), x -> x.pollinate(1, 1), Check.INDEX);
        Check.leaves("a dead one, of too many", Given::oneDead, x -> x.pollinate(1, 200), Check.INDEX);
    }

    private static void pollinateArgumentNext() {
        for (int palms : new int[] {0, -1, 201}) {
            Check.leaves("palms " + palms + " at the wrong time", () -> onDay(14), x -> x.pollinate(0, palms),
                Check.ARGUMENT);
        }
        Check.leaves("palms 201 of 10", PollenTest::four, x -> x.pollinate(1, 201), Check.ARGUMENT);
        Check.leaves("palms 201 without MALES", PollenTest::four, x -> x.pollinate(3, 201), Check.ARGUMENT);
    }

    private static void timeThenPalmsThenPollen() {
        Check.leaves("wrong time, too many PALMS", () -> Given.until(four(), 14, 99), x -> x.pollinate(0, 51), -2);
        Check.leaves("wrong time, no pollen", () -> Given.until(four(), 14, 99), x -> x.pollinate(3, 1), -2);
        Check.leaves("too many PALMS, not so much pollen", PollenTest::four, x -> x.pollinate(0, 51), -3);
        Check.leaves("too many PALMS, no pollen", PollenTest::four, x -> x.pollinate(3, 11), -3);
        Check.leaves("as many as PALMS, no pollen", PollenTest::four, x -> x.pollinate(3, 10), -4);
    }

    private static void nobodySells() {
        Check.nobody("pollen's from", (x, n) -> x.pollen(n, n == 0 ? 2 : 0, 1));
    }

    private static void nobodyBuys() {
        Check.nobody("pollen's to", (x, n) -> x.pollen(n == 0 ? 2 : 0, n, 1));
    }

    private static void bothTheSame() {
        Check.leaves("from 0 to 0", PollenTest::four, x -> x.pollen(0, 0, 1), Check.ARGUMENT);
        Check.leaves("from 3 to 3", PollenTest::four, x -> x.pollen(3, 3, 1), Check.ARGUMENT);
    }

    private static void pollenRange() {
        Check.range("pollen's palms", () -> Given.owners(new int[] {0, 0, 0, 10}, new int[] {0, 200, 0, 0}),
            (x, n) -> x.pollen(0, 1, n), 1, "1", 200, "200");
    }

    private static void whatIsDone() {
        OasisBooks x = pollinated(0, 10);
        Check.due("pollen of the buyer then", x.pollen(0, 1, 12), 32);
        Check.owner(x, 0, 0, 42, 50, 2, 50, 0, 0, 0, -1, 0, 0, 28, 0, 0);
        Check.owner(x, 1, 0, 18, 10, 1, 50, 0, 0, 1, -1, 0, 10, 32, 0, 0);
        Check.due("more of it", x.pollen(2, 1, 3), 35);
        Check.due("sold on", x.pollen(1, 3, 25), 25);
        Check.due("pollen that is left, as used", x.of(1, 11), 10);
    }

    private static void coinsOrOneMore() {
        OasisBooks x = four();
        Check.due("for all 30 COINS", x.pollen(2, 0, 30), 70);
        Check.due("COINS of the buyer", x.of(0, 1), 0);
        Check.due("COINS of the seller", x.of(2, 1), 60);
        Check.due("one more, with 0 COINS", x.pollen(2, 0, 1), -3);
        Check.leaves("31 with 30 COINS", PollenTest::four, y -> y.pollen(2, 0, 31), -3);
        Check.leaves("200 with 30 COINS", PollenTest::four, y -> y.pollen(2, 0, 200), -3);
        Check.leaves("one with COINS below 0", () -> Given.paidThree(2), y -> y.pollen(1, 0, 1), -3);
        Check.leaves("one with 0 COINS", () -> Given.paidThree(3), y -> y.pollen(1, 0, 1), -3);
        Check.due("one with one COIN", Given.paidThree(4).pollen(1, 0, 1), 1);
    }

    private static void sellerBelowZero() {
        OasisBooks x = Given.owners(new int[] {1, 0, 0, 1}, new int[] {0, 5, 0, 0});
        x.dig(1);
        Check.due("bought of one with -9 COINS", x.pollen(0, 1, 5), 5);
        Check.due("his COINS then", x.of(0, 1), -4);
    }

    private static void unusedOrOneMore() {
        Check.due("all 20 of one MALE", four().pollen(1, 0, 20), 60);
        Check.leaves("21 of one MALE's", PollenTest::four, x -> x.pollen(1, 0, 21), -4);
        Check.leaves("one of who has none", PollenTest::four, x -> x.pollen(3, 0, 1), -4);
        Check.due("13 where 7 of 20 are used", pollinated(0, 7).pollen(1, 0, 13), 53);
        Check.leaves("14 where 7 of 20 are used", () -> pollinated(0, 7), x -> x.pollen(1, 0, 14), -4);
        Check.leaves("one where all is used", () -> pollinated(40), x -> x.pollen(0, 1, 1), -4);
        OasisBooks x = bought(6);
        Check.leaves("more than was bought", () -> bought(6), y -> y.pollen(3, 1, 7), -4);
        Check.due("all that was bought", x.pollen(3, 1, 6), 26);
        Check.due("what is left of it", x.of(3, 11), 0);
    }

    /** 17 of 20 PALMS live on on the DATE 10, POLLINATED all of them: so 3 more can be POLLINATED elsewhere. */
    private static OasisBooks palmsHaveDied() {
        OasisBooks x = Given.owners(new int[] {0, 0, 20, 1}, new int[] {0, 9, 0, 0});
        x.pollinate(0, 20);
        return Given.until(x, 10, 0);
    }

    private static void pollinatedNow() {
        Check.due("POLLINATED now", palmsHaveDied().of(0, 10), 17);
        Check.due("pollen, used or not", palmsHaveDied().of(0, 11), 20);
        Check.due("3 more", palmsHaveDied().pollen(0, 1, 3), 3);
        Check.leaves("4 more", PollenTest::palmsHaveDied, x -> x.pollen(0, 1, 4), -4);
    }

    private static void atAnyDate() {
        for (int day : new int[] {0, 13, 14, 59, 60, 69, 70}) {
            Check.due("bought on the DAY " + day, Given.until(four(), day, 0).pollen(0, 3, 2), 2);
        }
        OasisBooks x = Given.until(four(), 60, 0);
        x.pollen(0, 3, 2);
        Given.until(x, 129, 0);
        Check.due("bought behind the harvest, on the DAY 129", x.of(3, 11), 2);
        Check.due("sold behind the harvest, on the DAY 129", x.of(0, 11), 38);
        x.pass(0, 1);
        Check.due("bought, on the DAY 130", x.of(3, 11), 0);
        Check.due("sold, on the DAY 130", x.of(0, 11), 40);
    }

    private static void pollenIndexFirst() {
        int[][] wrong = {{-1, -1, 0}, {1, 1, 1}, {0, 9, 201}, {9, 0, -1}, {4, 0, 200}, {0, 4, 200}};
        for (int[] w : wrong) {
            Check.leaves("pollen with " + Look.text(w), Given::oneDead, x -> x.pollen(w[0], w[1], w[2]), Check.INDEX);
        }
    }

    private static void pollenArgumentNext() {
        int[][] wrong = {{0, 0, 31}, {0, 1, 201}, {3, 0, 0}, {3, 3, 200}, {3, 0, -1}};
        for (int[] w : wrong) {
            Check.leaves("pollen with " + Look.text(w), PollenTest::four, x -> x.pollen(w[0], w[1], w[2]),
                Check.ARGUMENT);
        }
    }

    private static void coinsBeforePollen() {
        Check.leaves("31 with 30 COINS of who has 20", PollenTest::four, x -> x.pollen(1, 0, 31), -3);
        Check.leaves("31 with 30 COINS of who has none", PollenTest::four, x -> x.pollen(3, 0, 31), -3);
        Check.leaves("30 with 30 COINS of who has 20", PollenTest::four, x -> x.pollen(1, 0, 30), -4);
    }

    public static void main(String[] args) {
        Check.that("promise 10: no such OWNER", PollenTest::nobodyPollinates);
        Check.that("promise 10: palms 1 to 200", PollenTest::palmsRange);
        Check.that("promise 10: how many are POLLINATED then", PollenTest::howManyThen);
        Check.that("promise 10: -2, but on the DATES 0 to 13", PollenTest::datesOfPollen);
        Check.that("promise 10: -3, more than there are", PollenTest::palmsOrOneMore);
        Check.that("promise 10: -4, not so much pollen", PollenTest::pollenOrOneMore);
        Check.that("section 3: what was bought more, less what was sold", PollenTest::boughtAndSoldPollen);
        Check.that("section 3: behind a harvest none are, nothing is bought or sold", PollenTest::noneBehindAHarvest);
        Check.that("promise 10: IndexOutOfBounds goes first", PollenTest::pollinateIndexFirst);
        Check.that("promise 10: IllegalArgument goes ahead of numbers", PollenTest::pollinateArgumentNext);
        Check.that("promise 10: -2 ahead of -3 ahead of -4", PollenTest::timeThenPalmsThenPollen);
        Check.that("promise 11: no such OWNER sells", PollenTest::nobodySells);
        Check.that("promise 11: no such OWNER buys", PollenTest::nobodyBuys);
        Check.that("promise 11: both are the same", PollenTest::bothTheSame);
        Check.that("promise 11: palms 1 to 200", PollenTest::pollenRange);
        Check.that("promise 11: pollen of the buyer then, used or not", PollenTest::whatIsDone);
        Check.that("promise 11: -3, not so many COINS", PollenTest::coinsOrOneMore);
        Check.that("promise 11: a seller with COINS below 0", PollenTest::sellerBelowZero);
        Check.that("promise 11: -4, not so much more", PollenTest::unusedOrOneMore);
        Check.that("promise 11: -4, than for the PALMS that are POLLINATED now", PollenTest::pollinatedNow);
        Check.that("promise 11: until the harvest", PollenTest::atAnyDate);
        Check.that("promise 11: IndexOutOfBounds goes first", PollenTest::pollenIndexFirst);
        Check.that("promise 11: IllegalArgument goes ahead of numbers", PollenTest::pollenArgumentNext);
        Check.that("promise 11: -3 goes ahead of -4", PollenTest::coinsBeforePollen);
        Check.end();
    }
}
