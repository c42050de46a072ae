import java.math.BigInteger;

/** Promise 24: the checksum. */
public final class DigestTest {
    private static final long OF_A_NEW_ONE = -5276735415943335321L;
    private static final BigInteger THIRTY_ONE = BigInteger.valueOf(31);

    private DigestTest() {
    }

    /** The checksum by what one can ask, as a number that does not wrap around. */
    private static BigInteger endless(OasisBooks x) {
        BigInteger d = BigInteger.valueOf(7803);
        for (int what = 0; what <= 15; what++) {
            d = more(d, x.many(what));
        }
        for (int owner = 0; owner < x.many(8); owner++) {
            if (Look.owner(x, owner).equals("dead ")) {
                continue;
            }
            for (int what = 0; what <= 13; what++) {
                d = more(d, x.of(owner, what));
            }
            d = more(d, x.wouldCome(owner, 0, 7));
            d = more(d, x.wouldReap(owner, 3));
        }
        for (int bowl = 0; bowl <= 4320; bowl += 720) {
            d = more(d, x.ofBowl(bowl, 0));
            d = more(d, x.ofBowl(bowl, 1));
        }
        for (int loan = 0; loan < x.many(10); loan++) {
            for (int what = 0; what <= 3; what++) {
                d = more(d, x.ofLoan(loan, what));
            }
        }
        for (int sale = 0; sale < x.many(11); sale++) {
            for (int what = 0; what <= 2; what++) {
                d = more(d, x.ofSale(sale, what));
            }
        }
        return more(more(d, x.bestDig(0, 3)), x.pumpTakes(5, 0, 9));
    }

    private static BigInteger more(BigInteger d, int v) {
        return d.multiply(THIRTY_ONE).add(BigInteger.valueOf(v));
    }

    /** An object whose 512 calls are not used up by it. */
    private static void asByItsParts(String when, java.util.function.Supplier<OasisBooks> given) {
        Check.due("digest() " + when, given.get().digest(), endless(given.get()).longValue());
    }

    private static void ofANewOne() {
        Check.due("digest()", new OasisBooks().digest(), OF_A_NEW_ONE);
        asByItsParts("of a new one", OasisBooks::new);
    }

    private static void wrapsAround() {
        BigInteger d = endless(new OasisBooks());
        Check.due("a number above 64 bits", d.bitLength() > 64, true);
        Check.due("its lowest 64 bits", d.longValue(), OF_A_NEW_ONE);
    }

    private static OasisBooks gardensAfter(int steps) {
        OasisBooks x = Given.owners(new int[] {1500, 500, 60, 4}, new int[] {700, 500, 30, 2},
            new int[] {2000, 500, 90, 5});
        x.die(1, 1, 1);
        x.lend(2, 3, 500, 2);
        x.pollinate(0, 50);
        x.ahead(2, 4, 300, 20);
        x.pump(3);
        for (int step = 0; step < steps; step++) {
            x.pass(step * 7 % 100, 1 + step % 11);
            if (x.many(11) < 8) {
                x.ahead(0, 3, 1 + step, 1);
            }
            if (x.many(10) < 8) {
                x.lend(2, 0, 1 + step, 2);
            }
            x.pollinate(0, 1);
        }
        return x;
    }

    private static void ofGardens() {
        for (int steps = 0; steps <= 40; steps += 4) {
            int s = steps;
            asByItsParts("after " + s + " steps", () -> gardensAfter(s));
        }
    }

    private static void byNumbersNotByTheRow() {
        asByItsParts("where the heirs stand in front", () -> {
            OasisBooks x = Given.bowls(720, 1000, 800);
            x.die(0, 2, 1);
            return x;
        });
        asByItsParts("with a dead one", Given::oneDead);
    }

    private static void ofAsManyAsCanBe() {
        asByItsParts("of 10 OWNERS", Given::tenOwners);
        asByItsParts("of 8 LOANS", Given::eightLoans);
        asByItsParts("of 8 sales", Given::eightSales);
        asByItsParts("of one who has all", Given::whole);
        asByItsParts("of one with a single BOWL", () -> Given.bowls(1));
        asByItsParts("on the DAY 2000", () -> Given.until(Given.oneDead(), 2000, 30));
        asByItsParts("at LENGTH 90 and MUD 30", () -> {
            OasisBooks x = Given.whole();
            x.dig(50);
            x.fall(30);
            return x;
        });
    }

    private static void bowlsUpTo4320() {
        for (int bowls : new int[] {4319, 4320, 4321}) {
            asByItsParts("of " + bowls + " BOWLS", () -> Given.bowls(bowls));
        }
        for (int lent : new int[] {719, 720, 721}) {
            asByItsParts("of " + lent + " lent BOWLS", () -> {
                OasisBooks x = Given.bowls(5040, 0);
                x.lend(0, 1, lent, 1);
                return x;
            });
        }
    }

    private static void nothingIsChanged() {
        OasisBooks x = gardensAfter(12);
        long digest = x.digest();
        Check.due("digest() once more", x.digest(), digest);
        Check.due("all", Look.at(x), Look.at(gardensAfter(12)));
    }

    public static void main(String[] args) {
        Check.that("promise 24: d starts with 7803", DigestTest::ofANewOne);
        Check.that("promise 24: wraps around as a 64-bit integer", DigestTest::wrapsAround);
        Check.that("promise 24: each v in this order", DigestTest::ofGardens);
        Check.that("promise 24: OWNER who lives by OWNER (by numbers)", DigestTest::byNumbersNotByTheRow);
        Check.that("promise 24: as many as can be", DigestTest::ofAsManyAsCanBe);
        Check.that("promise 24: ofBowl() up to 4320", DigestTest::bowlsUpTo4320);
        Check.that("promise 24: nothing is changed", DigestTest::nothingIsChanged);
        Check.end();
    }
}
