/** Promise 13: DAYS go by, with their water, PALMS, harvests and LOANS. */
public final class DaysTest {
    // The RAIN with which the TABLE stays at 200, and the FLOW at 12, while there is no MUD.
    private static final int STEADY = 36;

    private DaysTest() {
    }

    private static void table() {
        OasisBooks x = new OasisBooks();
        x.pass(0, 1);
        Check.due("TABLE without RAIN", x.many(2), 188);
        Check.due("FLOW without RAIN", x.many(3), 10);
        x.pass(8, 1);
        Check.due("TABLE with RAIN 8", x.many(2), 180);
        x.pump(20);
        x.pass(99, 1);
        Check.due("TABLE with RAIN 99 and DRAW 20", x.many(2), 183);
        x.pump(0);
        x.pass(99, 70);
        Check.due("TABLE at most", x.many(2), 400);
        Check.due("DAY", x.many(0), 73);
        Check.due("DATE", x.many(1), 3);
        x.pump(20);
        x.pass(0, 70);
        Check.due("TABLE at least", x.many(2), 0);
        Check.due("FLOW at least", x.many(3), 0);
        x.pump(19);
        x.pass(57, 1);
        Check.due("TABLE: RAIN less DRAW", x.many(2), 0);
        x.pass(60, 1);
        Check.due("TABLE: RAIN less DRAW", x.many(2), 1);
    }

    private static void mud() {
        OasisBooks x = new OasisBooks();
        x.pass(STEADY, 9);
        Check.due("MUD on the DATE 9", x.many(5), 0);
        Check.due("LET OUT", x.many(12), 77760);
        x.pass(STEADY, 1);
        Check.due("MUD on the DATE 10", x.many(5), 1);
        Check.due("TABLE by the FLOW ahead of it", x.many(2), 200);
        Check.due("LET OUT with the FLOW as it is now", x.many(12), 85680);
        x.pass(STEADY, 1);
        Check.due("TABLE by the FLOW with MUD", x.many(2), 201);
        x.pass(STEADY, 58);
        Check.due("MUD on the DATE 69", x.many(5), 6);
        x.pass(STEADY, 1);
        Check.due("MUD on the DATE 0", x.many(5), 7);
        x.fall(22);
        x.pass(0, 20);
        Check.due("MUD at most", x.many(5), 30);
    }

    private static void water() {
        OasisBooks x = new OasisBooks();
        x.owner(720, 0, 0, 0);
        x.owner(721, 0, 0, 0);
        Check.due("the DAY 1", x.pass(STEADY, 1), 8467);
        Check.due("of(0, 12)", x.of(0, 12), 0);
        Check.due("of(1, 12)", x.of(1, 12), 8467);
        Check.due("LOST", x.many(13), 173);
        Check.due("LET OUT", x.many(12), 0);
        Check.due("the DAY 2", x.pass(STEADY, 1), 11);
        Check.due("LET OUT", x.many(12), 719 * 12);
        Check.due("LOST", x.many(13), 174);
        Check.due("the DAYS 3 to 6", x.pass(STEADY, 4), 0);
        Check.due("of(1, 12) without any", x.of(1, 12), 0);
        Check.due("the DAY 7", x.pass(STEADY, 1), 8640);
        Check.due("of(0, 13)", x.of(0, 13), 8640);
        Check.due("of(1, 13)", x.of(1, 13), 8478);
        Check.due("one who comes late", x.owner(9, 0, 0, 0), 2);
        Check.due("of(2, 13)", x.of(2, 13), 0);
    }

    /** The litres of a USER are taken all together ahead of the division. */
    private static void lentWater() {
        OasisBooks x = new OasisBooks();
        x.owner(721, 0, 0, 0);
        x.owner(0, 0, 0, 0);
        x.owner(10, 0, 0, 0);
        x.lend(0, 1, 1, 1);
        x.lend(2, 1, 1, 1);
        Check.due("came in all", x.pass(STEADY, 1), 126);
        Check.due("of(0, 12)", x.of(0, 12), 0);
        Check.due("of(1, 12)", x.of(1, 12), 23);
        Check.due("of(2, 12)", x.of(2, 12), 103);
        Check.due("LOST", x.many(13), 6);
        Check.due("LET OUT", x.many(12), 8508);
    }

    private static void loansEndBehindTheWater() {
        OasisBooks x = new OasisBooks();
        x.owner(720, 0, 0, 0);
        x.owner(0, 0, 0, 0);
        x.lend(0, 1, 720, 2);
        x.pass(STEADY, 7);
        Check.due("by LOAN on the DAY 7", x.of(1, 12), 8467);
        Check.due("CYCLES left", x.ofLoan(0, 3), 1);
        x.pass(0, 6);
        Check.due("CYCLES left on the DAY 13", x.ofLoan(0, 3), 1);
        x.pass(99, 1);
        Check.due("LOANS on the DAY 14", x.many(10), 0);
        Check.due("the lender had none on it", x.of(0, 13), 0);
    }

    private static OasisBooks garden(int bowls, int palms, int males, int days) {
        OasisBooks x = new OasisBooks();
        x.owner(bowls, 0, palms, males);
        if (males > 0) {
            x.pollinate(0, palms);
        }
        x.pass(STEADY, days);
        return x;
    }

    private static void moistAndSalt() {
        Check.due("MOIST by 14 more", garden(728, 10, 0, 1).of(0, 4), 58);
        Check.due("MOIST by 40 at most", garden(728, 2, 0, 1).of(0, 4), 84);
        Check.due("MOIST 99 ahead of 6 less", garden(5040, 10, 0, 2).of(0, 4), 93);
        Check.due("MOIST on a dry DAY 6", garden(0, 10, 0, 6).of(0, 4), 14);
        Check.due("MOIST on a dry DAY 8", garden(0, 10, 0, 8).of(0, 4), 2);
        Check.due("MOIST 0 at least", garden(0, 10, 0, 9).of(0, 4), 0);
        Check.due("SALT by 2 times NEED", garden(730, 3, 0, 1).of(0, 5), 0);
        Check.due("SALT by more", garden(731, 3, 0, 1).of(0, 5), 1);
        Check.due("MOIST without PALMS", garden(5040, 0, 0, 12).of(0, 4), 50);
        Check.due("SALT without PALMS", garden(5040, 0, 0, 12).of(0, 5), 0);
        OasisBooks x = garden(5040, 10, 0, 70);
        Check.due("SALT on the DAY 70", x.of(0, 5), 70);
        x.pass(30, 28);
        Check.due("SALT on the DAY 98", x.of(0, 5), 98);
        x.pass(30, 3);
        Check.due("SALT at most", x.of(0, 5), 99);
    }

    private static void dryPalmsDie() {
        Check.due("on the DATE 9", garden(0, 37, 0, 9).of(0, 2), 37);
        Check.due("on the DATE 10", garden(0, 37, 0, 10).of(0, 2), 33);
        Check.due("on the DATE 20", garden(0, 37, 0, 20).of(0, 2), 29);
        Check.due("the last one", garden(0, 1, 0, 10).of(0, 2), 0);
        Check.due("tens", garden(0, 40, 0, 10).of(0, 2), 35);
        OasisBooks dying = garden(16, 12, 1, 10);
        Check.due("MOIST 14", dying.of(0, 4), 14);
        Check.due("with a MOIST of 14", dying.of(0, 2), 10);
        Check.due("POLLINATED ones die too", dying.of(0, 10), 10);
        OasisBooks living = garden(17, 12, 1, 10);
        Check.due("MOIST 15", living.of(0, 4), 15);
        Check.due("with a MOIST of 15", living.of(0, 2), 12);
        OasisBooks some = new OasisBooks();
        some.owner(0, 0, 40, 1);
        some.pollinate(0, 20);
        some.pass(0, 10);
        Check.due("POLLINATED ones that are no more than PALMS", some.of(0, 10), 20);
    }

    private static void harvest() {
        OasisBooks x = new OasisBooks();
        x.owner(5040, 0, 200, 20);
        x.pollinate(0, 200);
        x.pass(30, 59);
        Check.due("DATES on the DATE 59", x.of(0, 6), 0);
        x.pass(30, 1);
        Check.due("DATES on the DATE 60", x.of(0, 6), 1860);
        Check.due("POLLINATED behind it", x.of(0, 10), 0);
        Check.due("DATES harvested ever", x.many(14), 1860);
        x.pass(30, 70);
        Check.due("a harvest of nothing", x.many(14), 1860);
        x.pass(30, 10);
        x.pollinate(0, 7);
        x.pass(30, 60);
        Check.due("7 PALMS: rounded down", x.of(0, 6), 1925);
        Check.due("DATES harvested ever", x.many(14), 1925);
        OasisBooks salty = new OasisBooks();
        salty.owner(5040, 0, 20, 1);
        salty.pollinate(0, 20);
        salty.pass(30, 60);
        Check.due("SALT", salty.of(0, 5), 60);
        Check.due("DATES less by SALT", salty.of(0, 6), 74);
    }

    private static void deliveries() {
        OasisBooks x = new OasisBooks();
        x.owner(5040, 5, 200, 20);
        x.owner(0, 100, 0, 0);
        x.pollinate(0, 200);
        x.ahead(0, 1, 999, 60);
        x.ahead(0, 1, 900, 40);
        x.ahead(1, 0, 10, 0);
        x.pass(30, 60);
        Check.due("the seller's DATES", x.of(0, 6), 10);
        Check.due("the buyer's DATES", x.of(1, 6), 1850);
        Check.due("the seller's COINS", x.of(0, 1), 105 - 78);
        Check.due("the buyer's COINS", x.of(1, 1), 78);
        Check.due("the sales end", x.many(11), 0);
        Check.due("DATES harvested ever", x.many(14), 1860);
        x.ahead(1, 0, 9, 0);
        x.ahead(0, 1, 999, 0);
        x.pass(30, 69);
        Check.due("sales stay until the harvest", x.many(11), 2);
        x.pass(30, 1);
        Check.due("the seller's DATES", x.of(0, 6), 0);
        Check.due("COINS below 0", x.of(0, 1), 27 - 2 * 980);
        Check.due("COINS of both", x.many(15), 105);
    }

    private static void wrong() {
        OasisBooks x = new OasisBooks();
        Class<IllegalArgumentException> argument = IllegalArgumentException.class;
        Class<IllegalStateException> state = IllegalStateException.class;
        int[][] wrong = {{-1, 1}, {100, 1}, {0, 0}, {0, -1}, {0, 71}, {Integer.MAX_VALUE, 1},
            {0, Integer.MAX_VALUE}, {0, Integer.MIN_VALUE}};
        for (int[] w : wrong) {
            Check.refuses(x, argument, "pass(" + w[0] + ", " + w[1] + ")", () -> x.pass(w[0], w[1]));
        }
        for (int year = 0; year < 28; year++) {
            x.pass(99, 70);
        }
        Check.refuses(x, state, "to the DAY 2001", () -> x.pass(0, 41));
        Check.refuses(x, argument, "too much RAIN to the DAY 2001", () -> x.pass(100, 41));
        x.pass(0, 40);
        Check.due("DAY", x.many(0), 2000);
        Check.due("DATE", x.many(1), 40);
        Check.refuses(x, state, "one DAY more", () -> x.pass(0, 1));
        Check.refuses(x, argument, "no DAY more", () -> x.pass(0, 0));
    }

    public static void main(String[] args) {
        table();
        mud();
        water();
        lentWater();
        loansEndBehindTheWater();
        moistAndSalt();
        dryPalmsDie();
        harvest();
        deliveries();
        wrong();
        Check.end();
    }
}
