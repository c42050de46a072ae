/** PALMS, and the harvest, of section 3. */
public final class PalmsTest {
    private PalmsTest() {
    }

    /** With so many BOWLS and PALMS; on the DAY 1 the BOWLS above 720 bring 12 litres each. */
    private static OasisBooks garden(int bowls, int palms) {
        return Given.owners(new int[] {bowls, 0, palms, 0}, new int[] {0, 0, 0, 0});
    }

    private static int onDay(int day, int bowls, int palms, int what) {
        return Given.until(garden(bowls, palms), day, Given.STEADY).of(0, what);
    }

    private static int watered(int bowls, int palms, int what) {
        return onDay(1, 720 + bowls, palms, what);
    }

    /** For 18 PALMS it is 1 for each BOWL of 12 litres. */
    private static void moistByWater() {
        int[][] want = {{0, 44}, {1, 45}, {6, 50}, {10, 54}, {38, 82}, {39, 83}, {40, 84}, {41, 84}, {42, 84},
            {720, 84}};
        for (int[] w : want) {
            Check.due("MOIST behind " + w[0] + " BOWLS for 18 PALMS", watered(w[0], 18, 4), w[1]);
        }
    }

    private static void moistIsRoundedDown() {
        Check.due("of 96 litres for 10 PALMS", watered(8, 10, 4), 58);
        Check.due("of 108 litres for 10 PALMS", watered(9, 10, 4), 60);
        Check.due("of 132 litres for 200 PALMS", watered(11, 200, 4), 44);
        Check.due("of 144 litres for 200 PALMS", watered(12, 200, 4), 45);
    }

    /** The second one has so many BOWLS on the DAY 1, and all on the DAY 2. */
    private static OasisBooks twoWetDays(int bowls) {
        OasisBooks x = Given.owners(new int[] {1440 - bowls, 0, 0, 0}, new int[] {bowls + 720, 0, 18, 0});
        x.pass(Given.STEADY, 1);
        return x;
    }

    private static void moistNinetyNineAtMost() {
        int[][] want = {{15, 58, 92}, {16, 59, 93}, {17, 60, 93}, {18, 61, 93}};
        for (int[] w : want) {
            OasisBooks x = twoWetDays(w[0]);
            Check.due("MOIST on the DAY 1", x.of(1, 4), w[1]);
            x.pass(Given.STEADY, 1);
            Check.due("MOIST on the DAY 2, from " + w[1], x.of(1, 4), w[2]);
        }
    }

    /** So many BOWLS bring the MOIST of the DAY 1; then all is sold, and it is dry. */
    private static OasisBooks dryFrom(int bowls, int day) {
        OasisBooks x = garden(720 + bowls, 18);
        x.pass(Given.STEADY, 1);
        x.sell(0, 1, 720 + bowls, 0);
        return Given.until(x, day, Given.STEADY);
    }

    private static void moistZeroAtLeast() {
        int[][] want = {{9, 5, 0}, {10, 6, 0}, {11, 7, 1}};
        for (int[] w : want) {
            Check.due("MOIST on the DAY 9", dryFrom(w[0], 9).of(0, 4), w[1]);
            Check.due("MOIST on the DAY 10, from " + w[1], dryFrom(w[0], 10).of(0, 4), w[2]);
        }
        Check.due("MOIST on the DAY 9 of a dry garden", onDay(9, 0, 18, 4), 0);
        Check.due("MOIST on the DAY 19 of a dry garden", onDay(19, 0, 18, 4), 0);
    }

    private static void saltByMoreThanTwoTimesNeed() {
        int[][] want = {{0, 0}, {9, 0}, {10, 0}, {11, 1}, {12, 1}, {720, 1}};
        for (int[] w : want) {
            Check.due("SALT behind " + w[0] * 12 + " litres for a NEED of 60", watered(w[0], 3, 5), w[1]);
        }
    }

    /** On the DAY 3 the FLOW is 1 (as in DaysTest.flowZeroAtLeast): 40 litres are 2 times NEED. */
    private static void saltByOneLitreMore() {
        for (int bowls : new int[] {39, 40, 41, 42}) {
            OasisBooks x = garden(2160 + bowls, 1);
            x.fall(30);
            x.pump(20);
            x.pass(0, 2);
            x.pump(0);
            int salt = x.of(0, 5);
            x.pass(0, 1);
            Check.due("litres", x.of(0, 12), bowls);
            Check.due("SALT more by " + bowls + " litres for a NEED of 20", x.of(0, 5) - salt, bowls > 40 ? 1 : 0);
        }
    }

    private static void saltNinetyNineAtMost() {
        OasisBooks x = Given.owners(new int[] {5040, 0, 10, 0});
        int[][] want = {{1, 1}, {70, 70}, {98, 98}, {99, 99}, {100, 99}, {110, 99}};
        for (int[] w : want) {
            Given.until(x, w[0], 30);
            Check.due("SALT on the DAY " + w[0], x.of(0, 5), w[1]);
        }
    }

    private static void oneAndATenthDie() {
        int[][] want = {{1, 0}, {2, 1}, {9, 8}, {10, 8}, {11, 9}, {19, 17}, {20, 17}, {99, 89}, {100, 89}, {199, 179},
            {200, 179}};
        for (int[] w : want) {
            Check.due(w[0] + " PALMS on the DATE 9", onDay(9, 0, w[0], 2), w[0]);
            Check.due(w[0] + " PALMS on the DATE 10", onDay(10, 0, w[0], 2), w[1]);
            Check.due(w[0] + " PALMS on the DATE 19", onDay(19, 0, w[0], 2), w[1]);
        }
        int[][] days = {{11, 33}, {20, 29}, {30, 26}, {60, 17}, {69, 17}, {70, 15}, {71, 15}};
        for (int[] d : days) {
            Check.due("37 PALMS on the DAY " + d[0], onDay(d[0], 0, 37, 2), d[1]);
        }
    }

    /** 16 BOWLS above 0 bring the DAY 7 192 litres, 24 of MOIST for 12 PALMS; 17 bring 25. */
    private static void moistBelowFifteen() {
        Check.due("MOIST on the DATE 10", onDay(10, 16, 12, 4), 14);
        Check.due("PALMS with a MOIST of 14", onDay(10, 16, 12, 2), 10);
        Check.due("MOIST on the DATE 10", onDay(10, 17, 12, 4), 15);
        Check.due("PALMS with a MOIST of 15", onDay(10, 17, 12, 2), 12);
        Check.due("MOIST on the DATE 9", onDay(9, 16, 12, 4), 20);
        OasisBooks wetOnTenth = garden(0, 12);
        Given.until(wetOnTenth, 9, Given.STEADY);
        wetOnTenth.sell(wetOnTenth.owner(5040, 0, 0, 0), 0, 5040, 0);
        wetOnTenth.pass(Given.STEADY, 1);
        Check.due("MOIST 0 on the DATE 9, then water", wetOnTenth.of(0, 4), 34);
        Check.due("PALMS with MOIST by then", wetOnTenth.of(0, 2), 12);
    }

    private static OasisBooks pollinatedAndDry(int palms, int pollinated) {
        OasisBooks x = Given.owners(new int[] {0, 0, palms, 20});
        x.pollinate(0, pollinated);
        return Given.until(x, 10, 0);
    }

    private static void pollinatedNoMoreThanPalms() {
        int[][] want = {{40, 40, 35}, {40, 36, 35}, {40, 35, 35}, {40, 34, 34}, {40, 1, 1}, {1, 1, 0}};
        for (int[] w : want) {
            Check.due(w[1] + " POLLINATED of " + w[0] + " PALMS, dry", pollinatedAndDry(w[0], w[1]).of(0, 10), w[2]);
        }
    }

    private static void withoutPalms() {
        OasisBooks x = Given.until(Given.whole(), 70, 30);
        Check.due("MOIST", x.of(0, 4), 50);
        Check.due("SALT", x.of(0, 5), 0);
        Check.due("MOIST, dry", onDay(70, 0, 0, 4), 50);
        Check.due("PALMS, dry", onDay(70, 0, 0, 2), 0);
        OasisBooks lastOneDied = Given.until(Given.owners(new int[] {0, 0, 1, 1}), 10, 0);
        lastOneDied.sell(lastOneDied.owner(5040, 0, 0, 0), 0, 5040, 0);
        Given.until(lastOneDied, 40, 50);
        Check.due("MOIST behind the death of the last", lastOneDied.of(0, 4), 0);
        Check.due("SALT behind the death of the last", lastOneDied.of(0, 5), 0);
        Check.due("PALMS behind the death of the last", lastOneDied.of(0, 2), 0);
        Check.due("litres all the same", lastOneDied.of(0, 12) > 0, true);
    }

    private static OasisBooks harvest(int palms, int males, int pollinated) {
        OasisBooks x = Given.owners(new int[] {5040, 0, palms, males});
        if (pollinated > 0) {
            x.pollinate(0, pollinated);
        }
        return Given.until(x, 59, 30);
    }

    private static void harvestOnDateSixty() {
        OasisBooks x = harvest(200, 20, 200);
        Check.due("DATES on the DATE 59", x.of(0, 6), 0);
        Check.due("POLLINATED on the DATE 59", x.of(0, 10), 200);
        x.pass(30, 1);
        Check.due("DATES on the DATE 60", x.of(0, 6), 200 * 93 * 100 / 1000);
        Check.due("POLLINATED on the DATE 60", x.of(0, 10), 0);
        x.pass(30, 1);
        Check.due("DATES on the DATE 61", x.of(0, 6), 1860);
        Given.until(x, 130, 30);
        Check.due("DATES on the DAY 130, POLLINATED none", x.of(0, 6), 1860);
        Check.due("DATES harvested ever", x.many(14), 1860);
    }

    private static void harvestRoundedDownOnce() {
        int[][] want = {{0, 0}, {1, 9}, {7, 65}, {10, 93}, {11, 102}, {199, 1850}, {200, 1860}};
        for (int[] w : want) {
            OasisBooks x = harvest(200, 20, w[0]);
            x.pass(30, 1);
            Check.due("DATES of " + w[0] + " POLLINATED", x.of(0, 6), w[1]);
            Check.due("DATES harvested ever", x.many(14), w[1]);
        }
    }

    private static void harvestLessBySalt() {
        OasisBooks x = harvest(20, 1, 20);
        x.pass(30, 1);
        Check.due("SALT on the DATE 60", x.of(0, 5), 60);
        Check.due("DATES with SALT 60", x.of(0, 6), 20 * 93 * 40 / 1000);
        Given.until(x, 70, 30);
        x.pollinate(0, 20);
        Given.until(x, 130, 30);
        Check.due("SALT on the DAY 130", x.of(0, 5), 99);
        Check.due("DATES with SALT 99 more", x.of(0, 6), 74 + 20 * 93 / 1000);
    }

    /** 46 DAYS with water, then 14 without: MOIST 9 and SALT 46 on the DATE 60, where 2 of 10 PALMS die. */
    private static void palmsDieAheadOfTheHarvest() {
        OasisBooks x = Given.owners(new int[] {5040, 0, 10, 1}, new int[] {0, 0, 0, 0});
        x.pollinate(0, 10);
        Given.until(x, 46, 36);
        x.sell(0, 1, 5040, 0);
        Check.due("wouldReap()", x.wouldReap(0, 36), 8 * 9 * 54 / 1000);
        Given.until(x, 60, 36);
        Check.due("MOIST", x.of(0, 4), 9);
        Check.due("SALT", x.of(0, 5), 46);
        Check.due("PALMS", x.of(0, 2), 8);
        Check.due("DATES", x.of(0, 6), 8 * 9 * 54 / 1000);
    }

    private static void harvestOfAll() {
        OasisBooks x = Given.owners(new int[] {2520, 0, 100, 5}, new int[] {2520, 0, 100, 5}, new int[] {0, 0, 20, 1});
        for (int owner = 0; owner < 3; owner++) {
            x.pollinate(owner, 20);
        }
        Given.until(x, 60, 36);
        Check.due("a dry garden", x.of(2, 6), 0);
        Check.due("the first garden", x.of(0, 6) > 0, true);
        Check.due("the second garden", x.of(1, 6) > 0, true);
        Check.due("DATES harvested ever", x.many(14), x.of(0, 6) + x.of(1, 6));
    }

    public static void main(String[] args) {
        Check.that("section 3: MOIST is more by 40 at most, then 6 less", PalmsTest::moistByWater);
        Check.that("section 3: times 30, divided by NEED", PalmsTest::moistIsRoundedDown);
        Check.that("section 3: then 99 at most", PalmsTest::moistNinetyNineAtMost);
        Check.that("section 3: MOIST 0 at least", PalmsTest::moistZeroAtLeast);
        Check.that("section 3: more than 2 times NEED", PalmsTest::saltByMoreThanTwoTimesNeed);
        Check.that("section 3: one litre more than 2 times NEED", PalmsTest::saltByOneLitreMore);
        Check.that("section 3: SALT 99 at most", PalmsTest::saltNinetyNineAtMost);
        Check.that("section 3: PALMS / 10 and 1 more die", PalmsTest::oneAndATenthDie);
        Check.that("section 3: with a MOIST below 15 by then", PalmsTest::moistBelowFifteen);
        Check.that("section 3: POLLINATED ones are no more than PALMS then", PalmsTest::pollinatedNoMoreThanPalms);
        Check.that("section 3: without PALMS nothing of this changes", PalmsTest::withoutPalms);
        Check.that("section 1: on the DATE 60 the harvest", PalmsTest::harvestOnDateSixty);
        Check.that("section 3: divided by 1000 once", PalmsTest::harvestRoundedDownOnce);
        Check.that("section 3: 100 less SALT", PalmsTest::harvestLessBySalt);
        Check.that("section 1: (3) PALMS ahead of (4) the harvest", PalmsTest::palmsDieAheadOfTheHarvest);
        Check.that("promise 18: DATES that were harvested ever, by all", PalmsTest::harvestOfAll);
        Check.end();
    }
}
