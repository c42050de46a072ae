/** Promises 20 to 24: what would be, with nothing changed. */
public final class WouldBeTest {
    private static final Class<IndexOutOfBoundsException> INDEX = IndexOutOfBoundsException.class;
    private static final Class<IllegalArgumentException> ARGUMENT = IllegalArgumentException.class;

    private WouldBeTest() {
    }

    private static OasisBooks gardens() {
        OasisBooks x = new OasisBooks();
        x.owner(1500, 500, 60, 4);
        x.owner(700, 500, 30, 2);
        x.owner(2000, 500, 90, 5);
        x.die(1, 1, 1);
        x.lend(2, 3, 500, 2);
        x.lend(0, 2, 300, 1);
        x.lend(0, 4, 100, 6);
        x.pollinate(0, 50);
        x.pollinate(3, 10);
        x.pollinate(2, 80);
        x.ahead(2, 4, 300, 20);
        x.pump(3);
        return x;
    }

    private static void promise20WouldCome() {
        OasisBooks x = new OasisBooks();
        x.owner(5040, 0, 0, 0);
        Check.due("wouldCome(0, 36, 1)", x.wouldCome(0, 36, 1), 8640);
        Check.due("wouldCome(0, 0, 1)", x.wouldCome(0, 0, 1), 7200);
        Check.due("wouldCome(0, 36, 9)", x.wouldCome(0, 36, 9), 77760);
        Check.due("wouldCome(0, 36, 10), with MUD", x.wouldCome(0, 36, 10), 85680);
        Check.due("DAY", x.many(0), 0);
        x.pass(36, 1);
        Check.due("only what comes from now on", x.wouldCome(0, 36, 1), 8640);
        int[][] asked = {{0, 70}, {99, 70}, {30, 13}, {17, 1}};
        for (int[] a : asked) {
            for (int owner : new int[] {0, 2, 3, 4}) {
                OasisBooks y = gardens();
                y.pass(30, 4);
                int before = y.of(owner, 13);
                int would = y.wouldCome(owner, a[0], a[1]);
                y.pass(a[0], a[1]);
                Check.due("wouldCome() as by pass()", y.of(owner, 13) - before, would);
            }
        }
    }

    private static void promise20Wrong() {
        OasisBooks x = gardens();
        for (int number : new int[] {-1, 1, 5, 10, Integer.MIN_VALUE, Integer.MAX_VALUE}) {
            Check.refuses(x, INDEX, "wouldCome(" + number + ", -1, 0)", () -> x.wouldCome(number, -1, 0));
        }
        int[][] wrong = {{-1, 1}, {100, 1}, {0, 0}, {0, -1}, {0, 71}, {0, Integer.MAX_VALUE}};
        for (int[] w : wrong) {
            Check.refuses(x, ARGUMENT, "wouldCome(0, " + w[0] + ", " + w[1] + ")",
                () -> x.wouldCome(0, w[0], w[1]));
        }
    }

    private static int bestDigOfOneDay(int length) {
        OasisBooks x = new OasisBooks();
        x.owner(5040, 0, 0, 0);
        if (length > 40) {
            x.dig(length - 40);
        }
        return x.bestDig(0, 1);
    }

    private static OasisBooks wholeCycleOnDay1(int dug) {
        OasisBooks x = new OasisBooks();
        x.owner(5040, 0, 0, 0);
        x.pass(0, 1);
        if (dug > 0) {
            x.dig(dug);
        }
        return x;
    }

    private static OasisBooks gardensDug(int length) {
        OasisBooks x = gardens();
        if (length > 0) {
            x.dig(length);
        }
        return x;
    }

    private static int bestDigByDigging(int dug, int rain, int days) {
        int best = 0;
        int most = gardensDug(dug).pass(rain, days);
        for (int more = 1; more <= 20 && 40 + dug + more <= 90; more++) {
            int came = gardensDug(dug + more).pass(rain, days);
            best = came > most ? more : best;
            most = Math.max(most, came);
        }
        return best;
    }

    private static void promise21BestDig() {
        Check.due("bestDig(0, 1) at LENGTH 40", bestDigOfOneDay(40), 13);
        Check.due("bestDig(0, 1) at LENGTH 80", bestDigOfOneDay(80), 6);
        Check.due("bestDig(0, 1) at LENGTH 85", bestDigOfOneDay(85), 1);
        Check.due("bestDig(0, 1) at LENGTH 86, up to 90", bestDigOfOneDay(86), 0);
        Check.due("bestDig(0, 1) at LENGTH 90", bestDigOfOneDay(90), 0);
        Check.due("bestDig(99, 35) without OWNERS", new OasisBooks().bestDig(99, 35), 0);
        Check.due("bestDig(0, 28), up to 20 more", wholeCycleOnDay1(0).bestDig(0, 28), 20);
        Check.due("bestDig(0, 28) at LENGTH 80, up to 90", wholeCycleOnDay1(40).bestDig(0, 28), 10);
        int with19 = wholeCycleOnDay1(19).pass(0, 28);
        int with20 = wholeCycleOnDay1(20).pass(0, 28);
        Check.due("more litres with 20 than with 19", with20 > with19 ? 1 : 0, 1);
        int[][] asked = {{40, 12}, {0, 1}, {3, 2}, {20, 5}, {10, 35}};
        for (int[] a : asked) {
            for (int dug : new int[] {0, 29, 31, 38, 45, 49}) {
                Check.due("bestDig() as by dig() and pass()", gardensDug(dug).bestDig(a[0], a[1]),
                    bestDigByDigging(dug, a[0], a[1]));
            }
        }
        OasisBooks x = gardens();
        x.bestDig(40, 12);
        Check.due("LENGTH", x.many(4), 40);
        Check.due("COINS", x.many(15), 1500);
        int[][] wrong = {{-1, 1}, {100, 1}, {0, 0}, {0, -1}, {0, 36}, {0, Integer.MAX_VALUE}};
        for (int[] w : wrong) {
            Check.refuses(x, ARGUMENT, "bestDig(" + w[0] + ", " + w[1] + ")", () -> x.bestDig(w[0], w[1]));
        }
    }

    private static void promise22PumpTakes() {
        OasisBooks x = new OasisBooks();
        x.owner(5040, 0, 0, 0);
        Check.due("pumpTakes(20, 0, 1)", x.pumpTakes(20, 0, 1), 1440);
        Check.due("pumpTakes(0, 0, 1)", x.pumpTakes(0, 0, 1), 0);
        x.pump(20);
        Check.due("pumpTakes(0, 0, 1) with DRAW 20", x.pumpTakes(0, 0, 1), -1440);
        Check.due("pumpTakes(20, 0, 70) with DRAW 20", x.pumpTakes(20, 0, 70), 0);
        Check.due("DRAW", x.many(6), 20);
        OasisBooks y = gardens();
        y.pump(17);
        Check.due("pumpTakes(17, 33, 70) as by pump() and pass()", gardens().pumpTakes(17, 33, 70),
            gardens().pass(33, 70) - y.pass(33, 70));
        int[][] wrong = {{-1, 0, 1}, {21, 0, 1}, {0, -1, 1}, {0, 100, 1}, {0, 0, 0}, {0, 0, 71},
            {0, 0, Integer.MIN_VALUE}};
        for (int[] w : wrong) {
            Check.refuses(x, ARGUMENT, "pumpTakes" + java.util.Arrays.toString(w),
                () -> x.pumpTakes(w[0], w[1], w[2]));
        }
    }

    private static void promise23WouldReap() {
        OasisBooks x = new OasisBooks();
        x.owner(5040, 0, 200, 20);
        x.owner(0, 0, 0, 0);
        x.pollinate(0, 200);
        x.ahead(0, 1, 999, 0);
        Check.due("on the DATE 0", x.wouldReap(0, 30), 1860);
        Check.due("of one without PALMS", x.wouldReap(1, 30), 0);
        x.pass(30, 59);
        Check.due("on the DATE 59", x.wouldReap(0, 30), 1860);
        x.pass(30, 1);
        Check.due("DATES", x.of(0, 6), 861);
        Check.due("on the DATE 60", x.wouldReap(0, 30), 0);
        x.pass(30, 10);
        x.pollinate(0, 100);
        Check.due("in the next YEAR", x.wouldReap(0, 30), 930);
        Check.due("DATES", x.of(0, 6), 861);
        Check.due("of the buyer", x.wouldReap(1, 30), 0);
        Check.due("without RAIN the water ends", x.wouldReap(0, 0), 0);
        for (int number : new int[] {-1, 2, 10, Integer.MIN_VALUE, Integer.MAX_VALUE}) {
            Check.refuses(x, INDEX, "wouldReap(" + number + ", -1)", () -> x.wouldReap(number, -1));
        }
        for (int rain : new int[] {-1, 100, Integer.MIN_VALUE, Integer.MAX_VALUE}) {
            Check.refuses(x, ARGUMENT, "wouldReap(0, " + rain + ")", () -> x.wouldReap(0, rain));
        }
    }

    /** The heirs of the first one stand in front, and so they lose least. */
    private static void firstOneDies() {
        OasisBooks x = new OasisBooks();
        x.owner(2000, 0, 0, 0);
        x.owner(3000, 0, 0, 0);
        x.wouldCome(0, 30, 7);
        x.die(0, 1, 1);
        for (int owner = 1; owner < 4; owner++) {
            int would = x.wouldCome(owner, 36, 7);
            OasisBooks y = new OasisBooks();
            y.owner(2000, 0, 0, 0);
            y.owner(3000, 0, 0, 0);
            y.die(0, 1, 1);
            y.pass(36, 7);
            Check.due("wouldCome() of " + owner, would, y.of(owner, 13));
        }
    }

    private static void digestOfOneBowl() {
        OasisBooks x = new OasisBooks();
        x.owner(1, 0, 0, 0);
        Check.due("digest() with one BOWL", x.digest(), digestBy(x));
    }

    private static void beyondTheLastDay() {
        OasisBooks x = new OasisBooks();
        x.owner(5040, 0, 200, 20);
        for (int year = 0; year < 28; year++) {
            x.pass(30, 70);
        }
        x.pollinate(0, 100);
        x.pass(30, 40);
        Check.due("DAY", x.many(0), 2000);
        Check.due("wouldCome() beyond it", x.wouldCome(0, 30, 70) > 100000 ? 1 : 0, 1);
        Check.due("wouldReap() beyond it", x.wouldReap(0, 30), 930);
        Check.due("pumpTakes() beyond it", x.pumpTakes(20, 30, 35) > 0 ? 1 : 0, 1);
        Check.due("bestDig() beyond it", x.bestDig(0, 1) > 0 ? 1 : 0, 1);
        Check.due("DAY", x.many(0), 2000);
    }

    private static long digestBy(OasisBooks x) {
        long d = 7803;
        for (int what = 0; what <= 15; what++) {
            d = d * 31 + x.many(what);
        }
        for (int owner = 0; owner < x.many(8); owner++) {
            try {
                for (int what = 0; what <= 13; what++) {
                    d = d * 31 + x.of(owner, what);
                }
                d = d * 31 + x.wouldCome(owner, 0, 7);
                d = d * 31 + x.wouldReap(owner, 3);
            } catch (IndexOutOfBoundsException e) {
                continue;
            }
        }
        for (int bowl = 0; bowl <= 4320; bowl += 720) {
            d = d * 31 + x.ofBowl(bowl, 0);
            d = d * 31 + x.ofBowl(bowl, 1);
        }
        for (int loan = 0; loan < x.many(10); loan++) {
            for (int what = 0; what <= 3; what++) {
                d = d * 31 + x.ofLoan(loan, what);
            }
        }
        for (int sale = 0; sale < x.many(11); sale++) {
            for (int what = 0; what <= 2; what++) {
                d = d * 31 + x.ofSale(sale, what);
            }
        }
        d = d * 31 + x.bestDig(0, 3);
        return d * 31 + x.pumpTakes(5, 0, 9);
    }

    private static void promise24Digest() {
        Check.due("digest() of a new one", new OasisBooks().digest(), -5276735415943335321L);
        Check.due("digest() of a new one by its parts", digestBy(new OasisBooks()), -5276735415943335321L);
        for (int steps = 0; steps <= 40; steps += 4) {
            OasisBooks x = gardensAfter(steps);
            long digest = x.digest();
            Check.due("digest() after " + steps + " steps", digest, digestBy(x));
            Check.due("digest() once more", x.digest(), digest);
        }
        OasisBooks x = gardensAfter(12);
        x.die(0, 2, 2);
        Check.due("digest() behind a death", x.digest(), digestBy(x));
    }

    private static OasisBooks gardensAfter(int steps) {
        OasisBooks x = gardens();
        for (int step = 0; step < steps; step++) {
            x.pass(step * 7 % 100, 1 + step % 11);
            if (x.many(11) < 8) {
                x.ahead(0, 3, 1 + step, 1);
            }
            if (x.many(10) < 8) {
                x.lend(2, 0, 1 + step, 2);
            }
            x.pollinate(0, 1);
        }
        return x;
    }

    public static void main(String[] args) {
        promise20WouldCome();
        promise20Wrong();
        promise21BestDig();
        promise22PumpTakes();
        promise23WouldReap();
        firstOneDies();
        beyondTheLastDay();
        promise24Digest();
        digestOfOneBowl();
        Check.end();
    }
}
