/** Promise 4, and the LOANS of the sections 1 and 2. */
public final class LendTest {
    private LendTest() {
    }

    private static OasisBooks three() {
        return Given.bowls(10, 8, 0);
    }

    /** Of the first one's 10 BOWLS 3 are used by the second one, then 4 by the third. */
    private static OasisBooks twoLoans() {
        OasisBooks x = three();
        x.lend(0, 1, 3, 1);
        x.lend(0, 2, 4, 2);
        return x;
    }

    private static void users(String when, OasisBooks x, int... want) {
        int[] got = new int[want.length];
        for (int bowl = 0; bowl < want.length; bowl++) {
            got[bowl] = x.ofBowl(bowl, 1);
        }
        Check.due("the USERS " + when, Look.text(got), Look.text(want));
    }

    private static void nobodyLends() {
        Check.nobody("lend's from", (x, n) -> x.lend(n, n == 0 ? 2 : 0, 1, 1));
    }

    private static void nobodyUses() {
        Check.nobody("lend's to", (x, n) -> x.lend(n == 0 ? 2 : 0, n, 1, 1));
    }

    private static void bothTheSame() {
        Check.leaves("from 0 to 0", LendTest::three, x -> x.lend(0, 0, 1, 1), Check.ARGUMENT);
        Check.leaves("from 2 to 2", LendTest::three, x -> x.lend(2, 2, 1, 1), Check.ARGUMENT);
    }

    private static void bowlsRange() {
        Check.range("lend's bowls", () -> Given.bowls(5040, 0), (x, n) -> x.lend(0, 1, n, 1), 1, "1", 5040, "1");
    }

    private static void cyclesRange() {
        Check.range("lend's cycles", LendTest::three, (x, n) -> x.lend(0, 1, 1, n), 1, "1", 20, "1");
    }

    private static void whatIsDone() {
        OasisBooks x = twoLoans();
        Check.due("a third LOAN", x.lend(1, 2, 8, 20), 3);
        Check.due("LOANS", x.many(10), 3);
        Check.due("ofLoan()", Look.loans(x), Look.text(0, 1, 3, 1) + Look.text(0, 2, 4, 2) + Look.text(1, 2, 8, 20));
        Check.owner(x, 0, 10, 0, 0, 0, 50, 0, 0, 0, 0, 3, 0, 0, 0, 0);
        Check.owner(x, 1, 8, 0, 0, 0, 50, 0, 0, 1, 10, 3, 0, 0, 0, 0);
        Check.owner(x, 2, 0, 0, 0, 0, 50, 0, 0, 2, -1, 12, 0, 0, 0, 0);
    }

    private static void eightAtMost() {
        OasisBooks x = Given.bowls(10, 10);
        for (int loan = 1; loan <= 8; loan++) {
            Check.due("a LOAN", x.lend(loan % 2, 1 - loan % 2, 1, 1), loan);
        }
        Check.leaves("a 9th", Given::eightLoans, y -> y.lend(1, 0, 1, 1), Check.STATE);
        Check.leaves("a 9th of the last one's", Given::eightLoans, y -> y.lend(0, 1, 1, 20), Check.STATE);
    }

    private static void eightAtATime() {
        OasisBooks x = Given.until(Given.eightLoans(), 6, 0);
        Check.due("a 9th on the DAY 6", Check.outcome(() -> x.lend(1, 0, 1, 1)), Check.STATE);
        x.pass(0, 1);
        Check.due("an 8th on the DAY 7", x.lend(1, 0, 1, 5), 8);
        Check.due("it comes last", Look.loans(x).endsWith(" " + Look.text(1, 0, 1, 5)), true);
        Check.due("a 9th on the DAY 7", Check.outcome(() -> x.lend(1, 0, 1, 1)), Check.STATE);
    }

    private static void eightBehindADeath() {
        OasisBooks x = Given.bowls(10, 10, 10);
        for (int loan = 0; loan < 8; loan++) {
            x.lend(loan % 3, (loan + 1) % 3, 1, 3);
        }
        x.die(0, 1, 0);
        Check.due("LOANS that are left", x.many(10), 3);
        for (int loan = 4; loan <= 8; loan++) {
            Check.due("a LOAN", x.lend(3, 1, 1, 3), loan);
        }
        Check.due("a 9th", Check.outcome(() -> x.lend(3, 1, 1, 3)), Check.STATE);
    }

    private static void allOrOneMore() {
        Check.due("all 10", three().lend(0, 1, 10, 1), 1);
        Check.leaves("11 of 10", LendTest::three, x -> x.lend(0, 1, 11, 1), -2);
        Check.leaves("5040 of 10", LendTest::three, x -> x.lend(0, 1, 5040, 1), -2);
        Check.leaves("one of none", LendTest::three, x -> x.lend(2, 1, 1, 1), -2);
        Check.due("all that are not lent", twoLoans().lend(0, 1, 3, 1), 3);
        Check.leaves("one more than are not lent", LendTest::twoLoans, x -> x.lend(0, 1, 4, 1), -2);
    }

    private static OasisBooks allLent() {
        OasisBooks x = three();
        x.lend(0, 2, 10, 2);
        return x;
    }

    private static void allLentAlready() {
        Check.leaves("one more, where all are lent", LendTest::allLent, x -> x.lend(0, 1, 1, 1), -2);
        Check.leaves("a used one is lent on", LendTest::allLent, x -> x.lend(2, 1, 1, 1), -2);
        Check.due("first BOWL of one who has lent all", allLent().of(0, 8), 0);
        Check.due("BOWLS of one who has lent all", allLent().of(0, 0), 10);
        Check.due("used by one who has lent all", allLent().of(0, 9), 0);
        users("of one who has lent all", allLent(), 2, 2, 2, 2, 2, 2, 2, 2, 2, 2, 1);
    }

    private static void lastOnesBackwards() {
        users("in two LOANS", twoLoans(), 0, 0, 0, 2, 2, 2, 2, 1, 1, 1, 1, 1, 1, 1, 1, 1, 1, 1, -1);
        OasisBooks x = twoLoans();
        x.lend(0, 1, 1, 1);
        users("in a third LOAN", x, 0, 0, 1, 2, 2, 2, 2, 1, 1, 1, 1);
        for (int bowl = 0; bowl < 10; bowl++) {
            Check.due("whose " + bowl + " is", x.ofBowl(bowl, 0), 0);
        }
    }

    private static void toOneAnother() {
        OasisBooks x = three();
        x.lend(0, 1, 2, 1);
        x.lend(1, 0, 3, 1);
        users("to one another", x, 0, 0, 0, 0, 0, 0, 0, 0, 1, 1, 1, 1, 1, 1, 1, 0, 0, 0, -1);
        Check.due("used by 0", x.of(0, 9), 11);
        Check.due("used by 1", x.of(1, 9), 7);
    }

    private static void othersMoveUp() {
        OasisBooks x = Given.until(twoLoans(), 6, 0);
        users("on the DAY 6", x, 0, 0, 0, 2, 2, 2, 2, 1, 1, 1, 1);
        x.pass(0, 1);
        users("on the DAY 7", x, 0, 0, 0, 0, 0, 0, 2, 2, 2, 2, 1);
        Check.due("ofLoan()", Look.loans(x), Look.text(0, 2, 4, 1));
        Check.due("LOANS", x.many(10), 1);
        x.pass(0, 7);
        users("on the DAY 14", x, 0, 0, 0, 0, 0, 0, 0, 0, 0, 0, 1);
        Check.due("LOANS on the DAY 14", x.many(10), 0);
        Check.due("used by 0", x.of(0, 9), 10);
    }

    /** The first and the third end on one DAY; the order of the others stays. */
    private static void severalEndAtOnce() {
        OasisBooks x = Given.bowls(10, 10);
        x.lend(0, 1, 1, 1);
        x.lend(0, 1, 2, 9);
        x.lend(1, 0, 3, 1);
        x.lend(1, 0, 4, 2);
        Given.until(x, 7, 0);
        Check.due("ofLoan()", Look.loans(x), Look.text(0, 1, 2, 8) + Look.text(1, 0, 4, 1));
        Check.leaves("ofLoan(2, 0)", () -> Given.until(Given.eightLoans(), 42, 0), y -> y.ofLoan(2, 0), Check.INDEX);
    }

    private static int lastDayOfLoan(int toldOn, int cycles) {
        OasisBooks x = Given.until(three(), toldOn, 0);
        x.lend(0, 1, 1, cycles);
        while (x.many(10) > 0) {
            x.pass(0, 1);
        }
        return x.many(0);
    }

    private static void dayOfItsEnd() {
        int[][] want = {{0, 1, 7}, {0, 2, 14}, {1, 1, 7}, {6, 1, 7}, {6, 2, 14}, {7, 1, 14}, {8, 1, 14}, {0, 20, 140},
            {7, 20, 147}, {69, 1, 70}, {70, 1, 77}};
        for (int[] w : want) {
            Check.due("the end of a LOAN told on the DAY " + w[0] + " for " + w[1], lastDayOfLoan(w[0], w[1]), w[2]);
        }
    }

    private static void oneCycleShorter() {
        OasisBooks x = three();
        x.lend(0, 1, 1, 20);
        int[][] want = {{6, 20}, {7, 19}, {8, 19}, {13, 19}, {14, 18}, {70, 10}, {139, 1}};
        for (int[] w : want) {
            Given.until(x, w[0], 0);
            Check.due("CYCLES left on the DAY " + w[0], x.ofLoan(0, 3), w[1]);
        }
        x.pass(0, 1);
        Check.due("LOANS on the DAY 140", x.many(10), 0);
    }

    /** The DAYS 7 and 14 have the BOWLS 0 to 719; a LOAN is shorter behind the water of the DAY. */
    private static void endsBehindTheWater() {
        OasisBooks x = Given.bowls(720, 0);
        x.lend(0, 1, 720, 1);
        x.pass(Given.STEADY, 6);
        Check.due("came to the USER up to the DAY 6", x.of(1, 13), 0);
        x.pass(Given.STEADY, 1);
        Check.due("came to the USER on the DAY 7", x.of(1, 12), 8640 * 98 / 100);
        Check.due("came to the lender on the DAY 7", x.of(0, 12), 0);
        x.pass(Given.STEADY, 7);
        Check.due("came to the USER on the DAY 14", x.of(1, 12), 0);
        Check.due("came to the lender on the DAY 14", x.of(0, 12) > 0, true);
    }

    private static void boughtOnesMoveTheLent() {
        OasisBooks x = twoLoans();
        x.sell(1, 0, 2, 0);
        users("behind 2 more BOWLS", x, 0, 0, 0, 0, 0, 2, 2, 2, 2, 1, 1, 1, 1);
        Check.due("whose the BOWL 11 is", x.ofBowl(11, 0), 0);
        Check.due("whose the BOWL 12 is", x.ofBowl(12, 0), 1);
    }

    private static void indexFirst() {
        int[][] wrong = {{-1, -1, 0, 0}, {1, 1, 1, 1}, {0, 9, 0, 1}, {9, 0, 1, 21}, {4, 0, 5040, 1}, {0, 4, 5040, 1}};
        for (int[] w : wrong) {
            Check.leaves("lend with " + Look.text(w), Given::oneDead, x -> x.lend(w[0], w[1], w[2], w[3]),
                Check.INDEX);
        }
        Check.leaves("a 9th to nobody", Given::eightLoans, x -> x.lend(1, 2, 1, 1), Check.INDEX);
    }

    private static void argumentBeforeState() {
        int[][] wrong = {{1, 1, 1, 1}, {1, 0, 0, 1}, {1, 0, 5041, 1}, {1, 0, 1, 0}, {1, 0, 1, 21}};
        for (int[] w : wrong) {
            Check.leaves("a 9th with " + Look.text(w), Given::eightLoans, x -> x.lend(w[0], w[1], w[2], w[3]),
                Check.ARGUMENT);
        }
    }

    private static void exceptionsBeforeNumber() {
        Check.leaves("a 9th of too many", Given::eightLoans, x -> x.lend(0, 1, 3, 1), Check.STATE);
        int[][] wrong = {{0, 0, 11, 1}, {0, 1, 5041, 1}, {0, 1, 11, 0}, {0, 1, 11, 21}};
        for (int[] w : wrong) {
            Check.leaves("lend with " + Look.text(w), LendTest::three, x -> x.lend(w[0], w[1], w[2], w[3]),
                Check.ARGUMENT);
        }
    }

    public static void main(String[] args) {
        Check.that("promise 4: no such OWNER lends", LendTest::nobodyLends);
        Check.that("promise 4: no such OWNER uses", LendTest::nobodyUses);
        Check.that("promise 4: both are the same", LendTest::bothTheSame);
        Check.that("promise 4: bowls 1 to 5040", LendTest::bowlsRange);
        Check.that("promise 4: cycles 1 to 20", LendTest::cyclesRange);
        Check.that("promise 4: how many LOANS there are", LendTest::whatIsDone);
        Check.that("promise 4: if there are 8 LOANS", LendTest::eightAtMost);
        Check.that("section 2: at most 8 at a time", LendTest::eightAtATime);
        Check.that("section 2: at most 8, behind a death", LendTest::eightBehindADeath);
        Check.that("promise 4: -2, not so many that are not lent", LendTest::allOrOneMore);
        Check.that("promise 4: -2, where all are lent", LendTest::allLentAlready);
        Check.that("section 2: from the end of his BOWLS backwards", LendTest::lastOnesBackwards);
        Check.that("section 2: the USER is who has it lent, otherwise its OWNER", LendTest::toOneAnother);
        Check.that("section 2: as one ends, the others move up", LendTest::othersMoveUp);
        Check.that("section 1: several LOANS end on one DAY", LendTest::severalEndAtOnce);
        Check.that("section 1: on a DAY that can be divided by 7 with 0", LendTest::dayOfItsEnd);
        Check.that("section 1: one CYCLE shorter", LendTest::oneCycleShorter);
        Check.that("section 1: (5) behind (2), the water", LendTest::endsBehindTheWater);
        Check.that("section 2: his last ones, also behind a sale to him", LendTest::boughtOnesMoveTheLent);
        Check.that("promise 4: IndexOutOfBounds goes first", LendTest::indexFirst);
        Check.that("promise 4: IllegalArgument goes ahead of IllegalState", LendTest::argumentBeforeState);
        Check.that("promise 4: exceptions go ahead of -2", LendTest::exceptionsBeforeNumber);
        Check.end();
    }
}
