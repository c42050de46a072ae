/** Promises 20 to 23: what would be, with nothing changed. */
public final class WouldBeTest {
    private WouldBeTest() {
    }

    /** Heirs, LOANS, POLLINATED PALMS, a sale AHEAD and a PUMP. */
    private static OasisBooks gardens() {
        OasisBooks x = Given.owners(new int[] {1500, 500, 60, 4}, new int[] {700, 500, 30, 2},
            new int[] {2000, 500, 90, 5});
        x.die(1, 1, 1);
        x.lend(2, 3, 500, 2);
        x.lend(0, 2, 300, 1);
        x.lend(0, 4, 100, 6);
        x.pollinate(0, 50);
        x.pollinate(3, 10);
        x.pollinate(2, 80);
        x.ahead(2, 4, 300, 20);
        x.pump(3);
        return x;
    }

    private static OasisBooks gardensOn(int day) {
        return Given.until(gardens(), day, 30);
    }

    private static OasisBooks wholeOn(int day) {
        return Given.until(Given.whole(), day, 30);
    }

    private static void nobodyWouldHave() {
        Check.nobody("wouldCome's owner", (x, n) -> x.wouldCome(n, 30, 7));
    }

    private static void comeRainRange() {
        Check.range("wouldCome's rain", Given::whole, (x, n) -> x.wouldCome(0, n, 1), 0, "7200", 99, "10080");
    }

    private static void comeDaysRange() {
        Check.range("wouldCome's days", Given::whole, (x, n) -> x.wouldCome(0, 30, n), 1, "7920", 70,
            String.valueOf(Given.whole().pass(30, 70)));
    }

    private static void comeIndexFirst() {
        for (int owner : new int[] {-1, 1, 4, 10}) {
            for (int[] w : new int[][] {{-1, 1}, {100, 1}, {0, 0}, {0, 71}}) {
                Check.leaves("wouldCome(" + owner + ", " + w[0] + ", " + w[1] + ")", Given::oneDead,
                    x -> x.wouldCome(owner, w[0], w[1]), Check.INDEX);
            }
        }
    }

    private static void comeAsByPass() {
        for (int[] a : new int[][] {{0, 70}, {99, 70}, {30, 13}, {17, 1}}) {
            for (int owner : new int[] {0, 2, 3, 4}) {
                OasisBooks x = gardensOn(4);
                int before = x.of(owner, 13);
                x.pass(a[0], a[1]);
                Check.leaves("wouldCome(" + owner + ", " + a[0] + ", " + a[1] + ")", () -> gardensOn(4),
                    y -> y.wouldCome(owner, a[0], a[1]), x.of(owner, 13) - before);
            }
        }
    }

    private static void comeWithMud() {
        OasisBooks x = Given.whole();
        Check.due("9 DAYS", x.wouldCome(0, 36, 9), 9 * 8640);
        Check.due("10 DAYS", x.wouldCome(0, 36, 10), 9 * 8640 + 7920);
        x.pass(36, 9);
        Check.due("only what comes from now on", x.wouldCome(0, 36, 1), 7920);
        Check.due("without BOWLS", Given.bowls(0).wouldCome(0, 99, 70), 0);
    }

    /** The heirs of the first one stand in front, and so they lose least. */
    private static OasisBooks firstOneDied() {
        OasisBooks x = Given.bowls(2000, 3000);
        x.wouldCome(0, 30, 7);
        x.die(0, 1, 1);
        return x;
    }

    private static void comeBehindADeath() {
        OasisBooks x = firstOneDied();
        x.pass(36, 7);
        for (int owner = 1; owner < 4; owner++) {
            Check.due("wouldCome() of " + owner, firstOneDied().wouldCome(owner, 36, 7), x.of(owner, 13));
        }
    }

    private static void bestRainRange() {
        Check.range("bestDig's rain", Given::whole, (x, n) -> x.bestDig(n, 1), 0, "13", 99, "9");
    }

    private static void bestDaysRange() {
        Check.range("bestDig's days", Given::whole, (x, n) -> x.bestDig(0, n), 1, "13", 35,
            String.valueOf(bestByDigging(Given::whole, 0, 35)));
        for (int days : new int[] {34, 35}) {
            Check.leaves("bestDig(20, " + days + ")", WouldBeTest::gardens, x -> x.bestDig(20, days),
                bestByDigging(WouldBeTest::gardens, 20, days));
        }
    }

    private static OasisBooks dug(OasisBooks x, int length) {
        if (length > 0) {
            x.dig(length);
        }
        return x;
    }

    private static int bestByDigging(java.util.function.Supplier<OasisBooks> given, int rain, int days) {
        int best = 0;
        int most = given.get().pass(rain, days);
        int length = given.get().many(4);
        for (int more = 1; more <= 20 && length + more <= 90; more++) {
            int came = dug(given.get(), more).pass(rain, days);
            best = came > most ? more : best;
            most = Math.max(most, came);
        }
        return best;
    }

    private static void bestAsByDigging() {
        for (int[] a : new int[][] {{40, 12}, {0, 1}, {3, 2}, {20, 5}, {10, 35}}) {
            for (int dug : new int[] {0, 29, 31, 38, 45, 49}) {
                int want = bestByDigging(() -> dug(gardens(), dug), a[0], a[1]);
                Check.leaves("bestDig(" + a[0] + ", " + a[1] + ") at LENGTH " + (40 + dug),
                    () -> dug(gardens(), dug), x -> x.bestDig(a[0], a[1]), want);
            }
        }
    }

    /** On the DAY 1 of a whole CYCLE each LENGTH more brings more in 28 DAYS: so the end alone tells. */
    private static OasisBooks longer(int dug) {
        return dug(Given.until(Given.whole(), 1, 0), dug);
    }

    private static void twentyAtMost() {
        Check.due("more with 20 than with 19", longer(20).pass(0, 28) > longer(19).pass(0, 28), true);
        Check.due("more with 21 than with 20", longer(21).pass(0, 28) > longer(20).pass(0, 28), true);
        Check.leaves("bestDig(0, 28)", () -> longer(0), x -> x.bestDig(0, 28), 20);
    }

    private static void upToNinety() {
        int[][] want = {{30, 20}, {31, 19}, {40, 10}, {50, 0}};
        for (int[] w : want) {
            Check.leaves("bestDig(0, 28) at LENGTH " + (40 + w[0]), () -> longer(w[0]), x -> x.bestDig(0, 28), w[1]);
        }
        int[][] oneDay = {{0, 13}, {40, 6}, {45, 1}, {46, 0}, {49, 0}, {50, 0}};
        for (int[] w : oneDay) {
            Check.leaves("bestDig(0, 1) at LENGTH " + (40 + w[0]), () -> dug(Given.whole(), w[0]),
                x -> x.bestDig(0, 1), w[1]);
        }
    }

    private static void smallestOfSeveral() {
        int with13 = dug(Given.whole(), 13).pass(0, 1);
        Check.due("12 bring less", dug(Given.whole(), 12).pass(0, 1) < with13, true);
        for (int more = 13; more <= 20; more++) {
            Check.due(more + " bring as much", dug(Given.whole(), more).pass(0, 1), with13);
        }
        Check.leaves("bestDig(0, 1)", Given::whole, x -> x.bestDig(0, 1), 13);
    }

    private static void noneIsBest() {
        Check.leaves("without OWNERS", OasisBooks::new, x -> x.bestDig(99, 35), 0);
        Check.leaves("without BOWLS", () -> Given.bowls(0, 0), x -> x.bestDig(99, 35), 0);
        Check.leaves("without BOWLS of the DAY 1", () -> Given.bowls(720), x -> x.bestDig(99, 1), 0);
        Check.leaves("without BOWLS up to the DAY 6", () -> Given.bowls(720), x -> x.bestDig(99, 6), 0);
        Check.due("with the DAY 7", Given.bowls(720).bestDig(99, 7) > 0, true);
    }

    private static void digsForNothing() {
        OasisBooks x = Given.owners(new int[] {5040, 0, 0, 0});
        Check.due("bestDig(0, 1) without COINS", x.bestDig(0, 1), 13);
        Check.due("COINS", x.of(0, 1), 0);
        Check.due("LENGTH", x.many(4), 40);
    }

    private static void pumpDrawRange() {
        Check.range("pumpTakes' draw", Given::whole, (x, n) -> x.pumpTakes(n, 0, 1), 0, "0", 20, "1440");
    }

    private static void pumpRainRange() {
        Check.range("pumpTakes' rain", Given::whole, (x, n) -> x.pumpTakes(20, n, 1), 0, "1440", 99, "1440");
    }

    private static OasisBooks pumping(int draw) {
        OasisBooks x = Given.whole();
        x.pump(draw);
        return x;
    }

    private static void pumpDaysRange() {
        int taken = pumping(0).pass(30, 70) - pumping(20).pass(30, 70);
        Check.range("pumpTakes' days", Given::whole, (x, n) -> x.pumpTakes(20, 30, n), 1, "1440", 70,
            String.valueOf(taken));
    }

    private static void pumpLessAndMore() {
        Check.leaves("from 0 to 20", () -> pumping(0), x -> x.pumpTakes(20, 0, 1), 1440);
        Check.leaves("from 20 to 0", () -> pumping(20), x -> x.pumpTakes(0, 0, 1), -1440);
        Check.leaves("from 0 to 0", () -> pumping(0), x -> x.pumpTakes(0, 0, 70), 0);
        Check.leaves("from 20 to 20", () -> pumping(20), x -> x.pumpTakes(20, 0, 70), 0);
        Check.leaves("from 9 to 9", () -> pumping(9), x -> x.pumpTakes(9, 50, 70), 0);
        Check.leaves("without OWNERS", OasisBooks::new, x -> x.pumpTakes(20, 0, 70), 0);
        Check.due("DRAW", pumping(20).many(6), 20);
    }

    private static void pumpAsByPass() {
        for (int draw : new int[] {0, 1, 3, 17, 20}) {
            OasisBooks x = gardens();
            x.pump(draw);
            int want = gardens().pass(33, 70) - x.pass(33, 70);
            Check.leaves("pumpTakes(" + draw + ", 33, 70)", WouldBeTest::gardens, y -> y.pumpTakes(draw, 33, 70), want);
        }
    }

    private static void nobodyWouldReap() {
        Check.nobody("wouldReap's owner", (x, n) -> x.wouldReap(n, 30));
        Check.leaves("a dead one with -1", Given::oneDead, x -> x.wouldReap(1, -1), Check.INDEX);
        Check.leaves("nobody with 100", Given::oneDead, x -> x.wouldReap(4, 100), Check.INDEX);
    }

    /** At the harvest of the DAY 60, with RAIN 30, the first one has 1860 DATES; 999 are sold. */
    private static OasisBooks palms(int day) {
        OasisBooks x = Given.owners(new int[] {5040, 0, 200, 20}, new int[] {0, 0, 0, 0});
        x.pollinate(0, 200);
        x.ahead(0, 1, 999, 0);
        return Given.until(x, day, 30);
    }

    private static void reapRainRange() {
        int dry = Given.until(palms(59), 60, 0).many(14);
        int withSalt = 200 * 93 * 99 / 1000;
        Check.range("wouldReap's rain", () -> palms(59), (x, n) -> x.wouldReap(0, n), 0, String.valueOf(dry), 99,
            String.valueOf(withSalt));
        Check.leaves("without RAIN from the DATE 0 on", () -> palms(0), x -> x.wouldReap(0, 0), 0);
    }

    private static void theNextHarvest() {
        int[][] want = {{0, 1860}, {1, 1860}, {58, 1860}, {59, 1860}, {60, 0}, {61, 0}, {69, 0}, {70, 0}};
        for (int[] w : want) {
            Check.leaves("on the DAY " + w[0], () -> palms(w[0]), x -> x.wouldReap(0, 30), w[1]);
        }
        OasisBooks x = palms(70);
        x.pollinate(0, 100);
        Check.due("POLLINATED again, on the DAY 70", x.wouldReap(0, 30), 930);
        Given.until(x, 129, 30);
        Check.due("on the DAY 129", x.wouldReap(0, 30), 930);
        x.pass(30, 1);
        Check.due("on the DAY 130", x.wouldReap(0, 30), 0);
    }

    private static void aheadOfWhatWasSold() {
        Check.leaves("of the seller", () -> palms(59), x -> x.wouldReap(0, 30), 1860);
        Check.leaves("of the buyer", () -> palms(59), x -> x.wouldReap(1, 30), 0);
        OasisBooks x = palms(60);
        Check.due("DATES of the seller behind it", x.of(0, 6), 861);
        Check.due("what he has already is not reaped", x.wouldReap(0, 30), 0);
    }

    private static void reapBehindADeath() {
        OasisBooks x = palms(30);
        x.die(0, 1, 0);
        Check.due("heirs have none POLLINATED", x.wouldReap(2, 30), 0);
    }

    private static OasisBooks lastDay() {
        OasisBooks x = Given.until(Given.owners(new int[] {5040, 0, 200, 20}), 1960, 30);
        x.pollinate(0, 100);
        return Given.until(x, 2000, 30);
    }

    private static void beyondTheLastDay() {
        int flow = lastDay().many(3);
        Check.leaves("wouldReap(0, 30)", WouldBeTest::lastDay, x -> x.wouldReap(0, 30), 930);
        Check.due("wouldCome(0, 30, 70)", lastDay().wouldCome(0, 30, 70) > 60 * 720 * (flow - 2), true);
        Check.due("bestDig(0, 35)", lastDay().bestDig(0, 35) > 0, true);
        Check.due("pumpTakes(20, 30, 70)", lastDay().pumpTakes(20, 30, 70) > 0, true);
        Check.leaves("pass(30, 1)", WouldBeTest::lastDay, x -> x.pass(30, 1), Check.STATE);
        OasisBooks x = wholeOn(1999);
        int one = x.wouldCome(0, 30, 1);
        int two = x.wouldCome(0, 30, 2);
        Check.due("the DAY 2000 by pass()", x.pass(30, 1), one);
        Check.due("the DAY 2001 from the DAY 2000", x.wouldCome(0, 30, 1), two - one);
    }

    private static void askedOneAfterAnother() {
        OasisBooks x = gardens();
        int come = x.wouldCome(2, 25, 40);
        int best = x.bestDig(25, 20);
        int takes = x.pumpTakes(11, 25, 40);
        int reap = x.wouldReap(2, 25);
        Check.due("wouldReap() again", x.wouldReap(2, 25), reap);
        Check.due("pumpTakes() again", x.pumpTakes(11, 25, 40), takes);
        Check.due("bestDig() again", x.bestDig(25, 20), best);
        Check.due("wouldCome() again", x.wouldCome(2, 25, 40), come);
        Check.due("all", Look.at(x), Look.at(gardens()));
    }

    public static void main(String[] args) {
        Check.that("promise 20: no such OWNER who lives", WouldBeTest::nobodyWouldHave);
        Check.that("promise 20: rain 0 to 99", WouldBeTest::comeRainRange);
        Check.that("promise 20: days 1 to 70", WouldBeTest::comeDaysRange);
        Check.that("promise 20: IndexOutOfBounds goes first", WouldBeTest::comeIndexFirst);
        Check.that("promise 20: if all went on so", WouldBeTest::comeAsByPass);
        Check.that("promise 20: the litres in them, with MUD", WouldBeTest::comeWithMud);
        Check.that("promise 20: behind a death", WouldBeTest::comeBehindADeath);
        Check.that("promise 21: rain 0 to 99", WouldBeTest::bestRainRange);
        Check.that("promise 21: days 1 to 35", WouldBeTest::bestDaysRange);
        Check.that("promise 21: with which most litres would come", WouldBeTest::bestAsByDigging);
        Check.that("promise 21: 0 to 20", WouldBeTest::twentyAtMost);
        Check.that("promise 21: up to 90 in all", WouldBeTest::upToNinety);
        Check.that("promise 21: of several the smallest one", WouldBeTest::smallestOfSeveral);
        Check.that("promise 21: nothing comes, so 0", WouldBeTest::noneIsBest);
        Check.that("promise 21: nothing is paid or dug", WouldBeTest::digsForNothing);
        Check.that("promise 22: draw 0 to 20", WouldBeTest::pumpDrawRange);
        Check.that("promise 22: rain 0 to 99", WouldBeTest::pumpRainRange);
        Check.that("promise 22: days 1 to 70", WouldBeTest::pumpDaysRange);
        Check.that("promise 22: how many less (below 0: more)", WouldBeTest::pumpLessAndMore);
        Check.that("promise 22: with that DRAW from now on", WouldBeTest::pumpAsByPass);
        Check.that("promise 23: no such OWNER who lives, ahead of rain", WouldBeTest::nobodyWouldReap);
        Check.that("promise 23: rain 0 to 99", WouldBeTest::reapRainRange);
        Check.that("promise 23: the next harvest", WouldBeTest::theNextHarvest);
        Check.that("promise 23: ahead of what was SOLD AHEAD", WouldBeTest::aheadOfWhatWasSold);
        Check.that("promise 23: behind a death", WouldBeTest::reapBehindADeath);
        Check.that("section 4: also beyond the DAY 2000", WouldBeTest::beyondTheLastDay);
        Check.that("section 4: nothing is changed", WouldBeTest::askedOneAfterAnother);
        Check.end();
    }
}
