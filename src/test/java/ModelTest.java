import java.util.function.IntSupplier;

/** Long runs of calls of all kinds, each answered by OasisBooks and by PlainOasis alike. */
public final class ModelTest {
    private static final int RUNS = 300;
    // Behind these calls an object may answer what it likes.
    private static final int MOST_CALLS = 512;
    private static final int CALLS_TO_COMPARE = 208;
    private static final int[] ODD = {-1, 0, 1, 2, 9, 10, 13, 14, 20, 21, 30, 31, 35, 36, 70, 71, 80, 81, 99, 100,
        200, 201, 999, 1000, 5040, 5041, 9999, 10000, Integer.MAX_VALUE, Integer.MIN_VALUE};

    private static long seed;

    private ModelTest() {
    }

    private static int below(int bound) {
        seed = seed * 6364136223846793005L + 1442695040888963407L;
        return (int) ((seed >>> 33) % bound);
    }

    /** Mostly least to most, now and then a number that may lie outside. */
    private static int some(int least, int most) {
        return below(40) == 0 ? ODD[below(ODD.length)] : least + below(most - least + 1);
    }

    /** Mostly an OWNER who lives. */
    private static int someone(PlainOasis p) {
        return below(20) == 0 || p.row.isEmpty() ? below(13) - 1 : p.row.get(below(p.row.size())).number;
    }

    private static void both(String call, IntSupplier real, IntSupplier plain) {
        Check.due(call, Check.outcome(real), Check.outcome(plain));
    }

    private static void tellOwners(String at, OasisBooks x, PlainOasis p) {
        int a = someone(p);
        int b = someone(p);
        int kind = below(8);
        if (kind == 0) {
            int bowls = some(0, below(3) == 0 ? 2500 : 700);
            int coins = some(0, 400);
            int palms = some(0, below(2) == 0 ? 200 : 40);
            int males = some(0, 5);
            both(at + "owner", () -> x.owner(bowls, coins, palms, males), () -> p.owner(bowls, coins, palms, males));
        } else if (kind < 3) {
            int bowls = some(1, 400);
            int coins = some(0, 100);
            both(at + "sell", () -> x.sell(a, b, bowls, coins), () -> p.sell(a, b, bowls, coins));
        } else if (kind < 6) {
            int bowls = some(1, 300);
            int cycles = some(1, 6);
            both(at + "lend", () -> x.lend(a, b, bowls, cycles), () -> p.lend(a, b, bowls, cycles));
        } else if (below(12) == 0) {
            int sons = some(0, 2);
            int daughters = some(0, 2);
            both(at + "die", () -> x.die(a, sons, daughters), () -> p.die(a, sons, daughters));
        }
    }

    private static void tellPalms(String at, OasisBooks x, PlainOasis p) {
        int a = someone(p);
        int b = someone(p);
        int n = some(1, 30);
        int coins = some(0, 60);
        switch (below(3)) {
            case 0 -> both(at + "pollinate", () -> x.pollinate(a, n), () -> p.pollinate(a, n));
            case 1 -> both(at + "pollen", () -> x.pollen(a, b, n), () -> p.pollen(a, b, n));
            default -> both(at + "ahead", () -> x.ahead(a, b, n * 3, coins), () -> p.ahead(a, b, n * 3, coins));
        }
    }

    private static void tellChannel(String at, OasisBooks x, PlainOasis p) {
        int n = some(1, 10);
        switch (below(4)) {
            case 0 -> both(at + "dig", () -> x.dig(n), () -> p.dig(n));
            case 1 -> both(at + "clean", () -> x.clean(n), () -> p.clean(n));
            case 2 -> both(at + "fall", () -> x.fall(n), () -> p.fall(n));
            default -> both(at + "pump", () -> x.pump(n - 1), () -> p.pump(n - 1));
        }
    }

    private static void passDays(String at, OasisBooks x, PlainOasis p) {
        int rain = some(0, 99);
        int days = some(1, below(6) == 0 ? 70 : 7);
        both(at + "pass", () -> x.pass(rain, days), () -> p.pass(rain, days));
    }

    private static void ask(String at, OasisBooks x, PlainOasis p) {
        int a = someone(p);
        int what = some(0, 15);
        int bowl = some(0, 5039);
        int deal = below(10) - 1;
        switch (below(6)) {
            case 0, 1 -> both(at + "of", () -> x.of(a, what), () -> p.of(a, what));
            case 2 -> both(at + "ofBowl", () -> x.ofBowl(bowl, what & 1), () -> p.ofBowl(bowl, what & 1));
            case 3 -> both(at + "ofLoan", () -> x.ofLoan(deal, what % 5), () -> p.ofLoan(deal, what % 5));
            case 4 -> both(at + "ofSale", () -> x.ofSale(deal, what % 4), () -> p.ofSale(deal, what % 4));
            default -> both(at + "many", () -> x.many(what), () -> p.many(what));
        }
    }

    private static void askWhatWouldBe(String at, OasisBooks x, PlainOasis p) {
        int a = someone(p);
        int rain = some(0, 99);
        int days = some(1, 20);
        int draw = some(0, 20);
        switch (below(4)) {
            case 0 -> both(at + "wouldCome", () -> x.wouldCome(a, rain, days), () -> p.wouldCome(a, rain, days));
            case 1 -> both(at + "bestDig", () -> x.bestDig(rain, days), () -> p.bestDig(rain, days));
            case 2 -> both(at + "pumpTakes", () -> x.pumpTakes(draw, rain, days),
                () -> p.pumpTakes(draw, rain, days));
            default -> both(at + "wouldReap", () -> x.wouldReap(a, rain), () -> p.wouldReap(a, rain));
        }
    }

    private static void compareAll(String at, OasisBooks x, PlainOasis p) {
        for (int what = 0; what < 16; what++) {
            Check.due(at + "many(" + what + ")", x.many(what), p.many(what));
        }
        for (int owner = 0; owner < 10; owner++) {
            for (int what = 0; what < 14; what++) {
                int o = owner;
                int w = what;
                both(at + "of(" + o + ", " + w + ")", () -> x.of(o, w), () -> p.of(o, w));
            }
        }
        int[][] bowls = p.bowls();
        for (int i = 0; i < 50; i++) {
            int bowl = below(5040);
            Check.due(at + "ofBowl(" + bowl + ", " + i % 2 + ")", x.ofBowl(bowl, i % 2), bowls[i % 2][bowl]);
        }
        Check.due(at + "meanMoist()", x.meanMoist(), p.meanMoist());
        Check.due(at + "digest()", x.digest(), p.digest());
    }

    private static void callSomething(String at, int haste, OasisBooks x, PlainOasis p) {
        int kind = below(20 + haste);
        if (kind < 8) {
            tellOwners(at, x, p);
        } else if (kind < 13) {
            tellPalms(at, x, p);
        } else if (kind < 15) {
            tellChannel(at, x, p);
        } else if (kind < 18) {
            ask(at, x, p);
        } else if (kind < 20) {
            askWhatWouldBe(at, x, p);
        } else if (below(100) == 0) {
            Check.due(at + "digest", x.digest(), p.digest());
        } else {
            passDays(at, x, p);
        }
    }

    private static void run(int run) {
        seed = 7803L * (run + 1);
        OasisBooks x = new OasisBooks();
        PlainOasis p = new PlainOasis();
        int haste = 1 + below(6);
        int calls = run % 2 == 0 ? MOST_CALLS : MOST_CALLS - CALLS_TO_COMPARE;
        for (int call = 0; call < calls; call++) {
            callSomething("call " + call + ": ", haste, x, p);
        }
        if (run % 2 == 1) {
            compareAll("in the end: ", x, p);
        }
    }

    public static void main(String[] args) {
        for (int run = 0; run < RUNS; run++) {
            int r = run;
            Check.that("run " + r, () -> run(r));
        }
        Check.end();
    }
}
