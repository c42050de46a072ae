/** The water of a DAY, of section 2, and the BOWLS of a DAY, of section 1. */
public final class WaterTest {
    // With RAIN 36 the FLOW is 12 on the DAYS 1 to 9.
    private static final int FLOW = 12;

    private WaterTest() {
    }

    private static OasisBooks next(OasisBooks x) {
        x.pass(Given.STEADY, 1);
        return x;
    }

    /** The second one in the ROW has this BOWL alone: of 12 litres there come 98 parts of 100, 11. */
    private static void dayOfEachBowl() {
        for (int day = 0; day < 7; day++) {
            for (int bowl : new int[] {day * 720, day * 720 + 1, day * 720 + 719}) {
                OasisBooks x = Given.bowls(bowl, 1);
                for (int gone = 1; gone <= 9; gone++) {
                    x.pass(Given.STEADY, 1);
                    Check.due("of the BOWL " + bowl + " on the DAY " + gone, x.of(1, 12), gone % 7 == day ? 11 : 0);
                }
            }
        }
    }

    private static void cycleBeginsAgain() {
        OasisBooks x = Given.until(Given.bowls(1), 6, Given.STEADY);
        Check.due("came up to the DAY 6", x.of(0, 13), 0);
        Check.due("on the DAY 7", next(x).of(0, 12), 12);
        Check.due("on the DAY 8", next(x).of(0, 12), 0);
        Given.until(x, 13, Given.STEADY);
        Check.due("came up to the DAY 13", x.of(0, 13), 12);
        int flow = next(x).many(3);
        Check.due("on the DAY 14", x.of(0, 12), flow);
        Given.until(x, 1994, 33);
        Check.due("on the DAY 1994, modulo 7 it is 6", x.of(0, 12), 0);
        x.pass(33, 1);
        Check.due("on the DAY 1995, modulo 7 it is 0", x.of(0, 12), x.many(3));
    }

    private static void overTwoDays() {
        OasisBooks x = Given.bowls(1430, 0);
        x.sell(0, 1, 20, 0);
        x.owner(30, 0, 0, 0);
        Check.due("10 less than the DAY 1 has", next(x).of(0, 12), 690 * FLOW);
        Check.due("20 on the DAY 1", x.of(1, 12), 20 * FLOW * 98 / 100);
        Check.due("10 on the DAY 1", x.of(2, 12), 10 * FLOW * 96 / 100);
        Check.due("none on the DAY 2", next(x).of(1, 12), 0);
        Check.due("20 on the DAY 2", x.of(2, 12), 20 * FLOW * 96 / 100);
        Check.due("ever", x.of(2, 13), 10 * FLOW * 96 / 100 + 20 * FLOW * 96 / 100);
    }

    private static void commonOnesAreLetOut() {
        Check.due("all, without OWNERS", next(new OasisBooks()).many(12), 720 * FLOW);
        Check.due("all, without BOWLS", next(Given.bowls(0)).many(12), 720 * FLOW);
        Check.due("none, where none is COMMON", next(Given.whole()).many(12), 0);
        Check.due("none of the DAY 1", next(Given.bowls(1440)).many(12), 0);
        Check.due("one of the DAY 1", next(Given.bowls(1439)).many(12), FLOW);
        Check.due("all but one of the DAY 1", next(Given.bowls(721)).many(12), 719 * FLOW);
        Check.due("all of the DAY 1", next(Given.bowls(720)).many(12), 720 * FLOW);
        OasisBooks x = Given.until(Given.bowls(1441), 9, Given.STEADY);
        Check.due("ever, of 9 DAYS", x.many(12), (719 + 4 * 720 + 719) * FLOW);
        Check.due("what is LET OUT is not LOST", x.many(13), 0);
    }

    /** The 10th in the ROW has 82 parts of 100. */
    private static void lessForEachAhead() {
        for (int ahead = 0; ahead < 10; ahead++) {
            int[] bowls = new int[ahead + 1];
            bowls[ahead] = 5040;
            OasisBooks x = next(Given.bowls(bowls));
            int came = 8640 * (100 - 2 * ahead) / 100;
            Check.due("came to who has " + ahead + " ahead", x.of(ahead, 12), came);
            Check.due("LOST by who has " + ahead + " ahead", x.many(13), 8640 - came);
        }
        OasisBooks tenth = Given.bowls(0, 0, 0, 0, 0, 0, 0, 0, 0, 721);
        Check.due("12 litres for the 10th", next(tenth).of(9, 12), 9);
        Check.due("LOST of them", tenth.many(13), 3);
    }

    private static void firstOneLosesNothing() {
        OasisBooks x = Given.until(Given.whole(), 9, Given.STEADY);
        Check.due("came", x.of(0, 13), 9 * 8640);
        Check.due("LOST", x.many(13), 0);
    }

    /** 24 litres together are 23, two times 12 are two times 11. */
    private static void allTogether() {
        OasisBooks x = Given.bowls(721, 0, 10);
        x.lend(0, 1, 1, 1);
        x.lend(2, 1, 1, 1);
        Check.due("came to all", x.pass(Given.STEADY, 1), 126);
        Check.due("who has lent all of the DAY", x.of(0, 12), 0);
        Check.due("the USER of two LOANS", x.of(1, 12), 23);
        Check.due("who has lent one of 10", x.of(2, 12), 103);
        Check.due("LOST", x.many(13), 6);
        Check.due("LET OUT", x.many(12), 709 * FLOW);
    }

    private static void placeOfTheUser() {
        OasisBooks x = Given.bowls(1440, 0);
        x.lend(0, 1, 720, 1);
        Check.due("from the first to the second", next(x).of(1, 12), 8640 * 98 / 100);
        OasisBooks y = Given.bowls(0, 1440);
        y.lend(1, 0, 720, 1);
        Check.due("from the second to the first", next(y).of(0, 12), 8640);
        Check.due("LOST", y.many(13), 0);
        OasisBooks z = Given.bowls(1440, 10);
        z.die(0, 2, 2);
        Check.due("one who has more ahead by a death", z.of(1, 7), 4);
        Check.due("his water on the DAY 2", next(next(z)).of(1, 12), 10 * FLOW * 92 / 100);
    }

    private static void lentPartOfTheDay() {
        OasisBooks x = Given.bowls(730, 0, 0);
        x.lend(0, 1, 4, 1);
        x.lend(0, 2, 5, 1);
        next(x);
        Check.due("the lender's one", x.of(0, 12), FLOW);
        Check.due("the 4 of the first LOAN", x.of(1, 12), 4 * FLOW * 98 / 100);
        Check.due("the 5 of the second LOAN", x.of(2, 12), 5 * FLOW * 96 / 100);
        OasisBooks y = Given.bowls(730, 0, 0);
        y.lend(0, 1, 4, 1);
        y.lend(0, 2, 8, 1);
        next(y);
        Check.due("none for the lender", y.of(0, 12), 0);
        Check.due("6 of 8 of the second LOAN", y.of(2, 12), 6 * FLOW * 96 / 100);
    }

    private static void latestDay() {
        OasisBooks x = Given.bowls(730);
        Check.due("ahead of all DAYS", x.of(0, 12), 0);
        Check.due("on the DAY 1", next(x).of(0, 12), 120);
        Check.due("on the DAY 2", next(x).of(0, 12), 0);
        Check.due("ever", x.of(0, 13), 120);
        x.pass(Given.STEADY, 5);
        Check.due("on the DAY 7", x.of(0, 12), 8640);
        Check.due("ever, with the DAY 7", x.of(0, 13), 8760);
    }

    private static void allLitresAreSomewhere() {
        OasisBooks x = Given.bowls(900, 1, 0, 1200, 77);
        x.lend(3, 1, 600, 9);
        x.lend(0, 2, 333, 2);
        int flowing = 0;
        int came = 0;
        for (int day = 1; day <= 40; day++) {
            came += x.pass(41, 1);
            flowing += 720 * x.many(3);
        }
        Check.due("came, LET OUT and LOST", came + x.many(12) + x.many(13), flowing);
    }

    public static void main(String[] args) {
        Check.that("section 1: BOWLS (DAY modulo 7) times 720 to 719 more", WaterTest::dayOfEachBowl);
        Check.that("section 1: a CYCLE begins again", WaterTest::cycleBeginsAgain);
        Check.that("section 2: each BOWL of that DAY", WaterTest::overTwoDays);
        Check.that("section 2: those of COMMON ones are LET OUT", WaterTest::commonOnesAreLetOut);
        Check.that("section 2: 2 less for each OWNER who stands ahead", WaterTest::lessForEachAhead);
        Check.that("section 2: nobody stands ahead of the first", WaterTest::firstOneLosesNothing);
        Check.that("section 2: the litres of a USER all together", WaterTest::allTogether);
        Check.that("section 2: the place of the USER", WaterTest::placeOfTheUser);
        Check.that("section 2: BOWLS of a DAY that are lent in part", WaterTest::lentPartOfTheDay);
        Check.that("promise 14: litres on the latest DAY, and ever", WaterTest::latestDay);
        Check.that("section 2: each litre comes, is LOST or LET OUT", WaterTest::allLitresAreSomewhere);
        Check.end();
    }
}
