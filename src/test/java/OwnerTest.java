/** Promises 1 and 2: a new oasis, and its OWNERS. */
public final class OwnerTest {
    private OwnerTest() {
    }

    private static void numbersAtFirst() {
        Check.due("many(0 to 15)", Look.many(new OasisBooks()),
            Look.text(0, 0, 200, 12, 40, 0, 0, 0, 0, 5040, 0, 0, 0, 0, 0, 0));
    }

    private static void withoutOwners() {
        for (int owner : new int[] {-1, 0, 9, 10}) {
            Check.leaves("of(" + owner + ", 0)", OasisBooks::new, x -> x.of(owner, 0), Check.INDEX);
        }
        Check.due("meanMoist()", new OasisBooks().meanMoist(), 0.0);
    }

    private static void allCommonAtFirst() {
        for (int bowl : new int[] {0, 719, 720, 5039}) {
            Check.due("whose " + bowl + " is", new OasisBooks().ofBowl(bowl, 0), -1);
            Check.due("the USER of " + bowl, new OasisBooks().ofBowl(bowl, 1), -1);
        }
    }

    private static void noDealsAtFirst() {
        Check.leaves("ofLoan(0, 0)", OasisBooks::new, x -> x.ofLoan(0, 0), Check.INDEX);
        Check.leaves("ofSale(0, 0)", OasisBooks::new, x -> x.ofSale(0, 0), Check.INDEX);
    }

    private static void nothingInCommon() {
        OasisBooks one = new OasisBooks();
        String before = Look.at(one);
        OasisBooks other = Given.oneDead();
        other.lend(0, 2, 1, 1);
        other.ahead(0, 2, 1, 1);
        other.pass(10, 5);
        Check.due("an older one", Look.at(one), before);
        Check.due("a younger one", Look.at(new OasisBooks()), before);
    }

    private static void bowlsRange() {
        Check.range("owner's bowls", OasisBooks::new, (x, n) -> x.owner(n, 1, 1, 1), 0, "0", 5040, "0");
    }

    private static void coinsRange() {
        Check.range("owner's coins", OasisBooks::new, (x, n) -> x.owner(1, n, 1, 1), 0, "0", 9999, "0");
    }

    private static void palmsRange() {
        Check.range("owner's palms", OasisBooks::new, (x, n) -> x.owner(1, 1, n, 1), 0, "0", 200, "0");
    }

    private static void malesRange() {
        Check.range("owner's males", OasisBooks::new, (x, n) -> x.owner(1, 1, 1, n), 0, "0", 20, "0");
    }

    private static void asTold() {
        OasisBooks x = new OasisBooks();
        Check.due("with nothing", x.owner(0, 0, 0, 0), 0);
        Check.due("with some", x.owner(30, 40, 50, 6), 1);
        Check.due("with everything", x.owner(5010, 9999, 200, 20), 2);
        Check.owner(x, 0, 0, 0, 0, 0, 50, 0, 0, 0, -1, 0, 0, 0, 0, 0);
        Check.owner(x, 1, 30, 40, 50, 6, 50, 0, 0, 1, 0, 30, 0, 120, 0, 0);
        Check.owner(x, 2, 5010, 9999, 200, 20, 50, 0, 0, 2, 30, 5010, 0, 400, 0, 0);
    }

    private static void tenAtMost() {
        OasisBooks x = new OasisBooks();
        for (int owner = 0; owner < 10; owner++) {
            Check.due("an OWNER", x.owner(0, 0, 0, 0), owner);
        }
        Check.leaves("an 11th", Given::tenOwners, y -> y.owner(0, 0, 0, 0), Check.STATE);
    }

    private static OasisBooks nineEver() {
        OasisBooks x = Given.bowls(10, 10, 10, 10, 10);
        x.die(0, 4, 0);
        return x;
    }

    private static OasisBooks tenEver() {
        OasisBooks x = Given.bowls(10, 10, 10, 10);
        x.die(0, 4, 0);
        x.die(1, 1, 0);
        x.die(2, 0, 1);
        return x;
    }

    private static void deadOnesCount() {
        OasisBooks x = nineEver();
        Check.due("the 10th ever, where 8 live", x.owner(0, 0, 0, 0), 9);
        Check.due("OWNERS ever", x.many(8), 10);
        Check.due("an 11th ever", Check.outcome(() -> x.owner(0, 0, 0, 0)), Check.STATE);
        Check.leaves("an 11th ever, where 7 live", OwnerTest::tenEver, y -> y.owner(0, 0, 0, 0), Check.STATE);
    }

    private static void commonBowls() {
        OasisBooks x = Given.bowls(30, 10);
        Check.due("all that are COMMON", x.owner(5000, 0, 0, 0), 2);
        Check.due("COMMON then", x.many(9), 0);
        Check.due("none of none", x.owner(0, 0, 0, 0), 3);
        Check.leaves("one more than COMMON", () -> Given.bowls(30, 10), y -> y.owner(5001, 0, 0, 0), Check.STATE);
        Check.leaves("all of fewer", () -> Given.bowls(1), y -> y.owner(5040, 0, 0, 0), Check.STATE);
        Check.leaves("one of none", Given::whole, y -> y.owner(1, 0, 0, 0), Check.STATE);
    }

    private static OasisBooks wholeLeftToHeirs() {
        OasisBooks x = Given.whole();
        x.die(0, 1, 1);
        return x;
    }

    private static void bowlsOfDeadNotCommon() {
        Check.due("COMMON behind a death", wholeLeftToHeirs().many(9), 0);
        Check.leaves("one of them", OwnerTest::wholeLeftToHeirs, x -> x.owner(1, 0, 0, 0), Check.STATE);
    }

    private static void argumentBeforeState() {
        int[][] wrong = {{-1, 0, 0, 0}, {5041, 0, 0, 0}, {0, -1, 0, 0}, {0, 10000, 0, 0}, {0, 0, -1, 0},
            {0, 0, 201, 0}, {0, 0, 0, -1}, {0, 0, 0, 21}};
        for (int[] w : wrong) {
            Check.leaves("an 11th with " + Look.text(w), Given::tenOwners, x -> x.owner(w[0], w[1], w[2], w[3]),
                Check.ARGUMENT);
        }
        Check.leaves("bowls that are not COMMON and palms 201", Given::whole, x -> x.owner(1, 0, 201, 0),
            Check.ARGUMENT);
        Check.leaves("bowls 5041 where none is COMMON", Given::whole, x -> x.owner(5041, 0, 0, 0), Check.ARGUMENT);
    }

    private static void newOneComesLast() {
        OasisBooks x = Given.bowls(10, 20);
        x.die(1, 1, 1);
        int last = x.owner(7, 0, 0, 0);
        Check.due("number", last, 4);
        Check.due("place behind heirs", x.of(last, 7), 3);
        Check.due("first BOWL behind all", x.of(last, 8), 30);
        Check.due("the BOWL ahead of it", x.ofBowl(29, 0), 3);
        Check.due("its last BOWL", x.ofBowl(36, 0), last);
        Check.due("the BOWL behind it", x.ofBowl(37, 0), -1);
    }

    private static void oneWhoComesLate() {
        OasisBooks x = Given.whole();
        x.sell(0, x.owner(0, 0, 0, 0), 40, 0);
        x.pass(Given.STEADY, 8);
        int late = x.owner(0, 3, 4, 1);
        Check.owner(x, late, 0, 3, 4, 1, 50, 0, 0, 2, -1, 0, 0, 20, 0, 0);
    }

    public static void main(String[] args) {
        Check.that("promise 1: the numbers at first", OwnerTest::numbersAtFirst);
        Check.that("promise 1: without OWNERS", OwnerTest::withoutOwners);
        Check.that("section 2: 5040 are COMMON at first", OwnerTest::allCommonAtFirst);
        Check.that("promise 1: no LOANS, no sales", OwnerTest::noDealsAtFirst);
        Check.that("promise 1: an oasis of its own", OwnerTest::nothingInCommon);
        Check.that("promise 2: bowls 0 to 5040", OwnerTest::bowlsRange);
        Check.that("promise 2: coins 0 to 9999", OwnerTest::coinsRange);
        Check.that("promise 2: palms 0 to 200", OwnerTest::palmsRange);
        Check.that("promise 2: males 0 to 20", OwnerTest::malesRange);
        Check.that("promise 2: BOWLS, COINS, PALMS, MALES; the number", OwnerTest::asTold);
        Check.that("promise 2: if there were 10 OWNERS", OwnerTest::tenAtMost);
        Check.that("section 2: at most 10 ever", OwnerTest::deadOnesCount);
        Check.that("promise 2: not so many BOWLS are COMMON", OwnerTest::commonBowls);
        Check.that("promise 2: COMMON behind a death", OwnerTest::bowlsOfDeadNotCommon);
        Check.that("promise 2: IllegalArgument ahead of IllegalState", OwnerTest::argumentBeforeState);
        Check.that("section 2: a new one comes last", OwnerTest::newOneComesLast);
        Check.that("section 2: MOIST, SALT, DATES and litres at first, also late", OwnerTest::oneWhoComesLate);
        Check.end();
    }
}
