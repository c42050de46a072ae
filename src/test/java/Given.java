/** Oases with which tests begin. */
final class Given {
    /** The RAIN that keeps a new oasis at the TABLE 200, and so at the FLOW 12, up to the DATE 9. */
    static final int STEADY = 36;

    /** Of oneDead(): who is dead, who live, and the number that is the next. */
    static final int DEAD = 1;
    static final int[] LIVING = {0, 2, 3};
    static final int EVER = 4;

    private Given() {
    }

    /** Each OWNER by BOWLS, COINS, PALMS, MALES. */
    static OasisBooks owners(int[]... each) {
        OasisBooks x = new OasisBooks();
        for (int[] o : each) {
            x.owner(o[0], o[1], o[2], o[3]);
        }
        return x;
    }

    static OasisBooks bowls(int... each) {
        OasisBooks x = new OasisBooks();
        for (int bowls : each) {
            x.owner(bowls, 0, 0, 0);
        }
        return x;
    }

    /** One OWNER with the whole CYCLE. */
    static OasisBooks whole() {
        return bowls(5040);
    }

    static OasisBooks oneDead() {
        OasisBooks x = owners(new int[] {100, 50, 20, 1}, new int[] {90, 40, 10, 2}, new int[] {80, 30, 5, 0});
        x.fall(4);
        x.die(DEAD, 1, 0);
        return x;
    }

    static OasisBooks tenOwners() {
        OasisBooks x = new OasisBooks();
        for (int owner = 0; owner < 10; owner++) {
            x.owner(500, 20, 10, 1);
        }
        return x;
    }

    /** Two OWNERS, the first of whom has lent 8 times one of his 10 BOWLS, for 1 to 8 CYCLES. */
    static OasisBooks eightLoans() {
        OasisBooks x = bowls(10, 10);
        for (int cycles = 1; cycles <= 8; cycles++) {
            x.lend(0, 1, 1, cycles);
        }
        return x;
    }

    /** Two OWNERS with 5 COINS each, the first of whom has sold DATES AHEAD 8 times. */
    static OasisBooks eightSales() {
        OasisBooks x = owners(new int[] {10, 5, 10, 1}, new int[] {10, 5, 10, 1});
        for (int kilos = 1; kilos <= 8; kilos++) {
            x.ahead(0, 1, kilos, 0);
        }
        return x;
    }

    /** An OWNER with COINS and one BOWL, and a second one; then the first pays 3 COINS. */
    static OasisBooks paidThree(int coins) {
        OasisBooks x = owners(new int[] {1, coins, 0, 0}, new int[] {0, 5, 0, 1});
        x.fall(1);
        x.clean(1);
        return x;
    }

    /** Lets DAYS go by until this DAY, with the same RAIN. */
    static OasisBooks until(OasisBooks x, int day, int rain) {
        while (x.many(0) < day) {
            x.pass(rain, Math.min(70, day - x.many(0)));
        }
        return x;
    }
}
