/** Promises 10 to 12: PALMS are POLLINATED, pollen is bought, DATES are sold AHEAD. */
public final class PalmsTest {
    private static final Class<IndexOutOfBoundsException> INDEX = IndexOutOfBoundsException.class;
    private static final Class<IllegalArgumentException> ARGUMENT = IllegalArgumentException.class;
    private static final Class<IllegalStateException> STATE = IllegalStateException.class;

    private PalmsTest() {
    }

    private static void promise10Pollinate() {
        OasisBooks x = new OasisBooks();
        x.owner(0, 0, 50, 2);
        x.owner(0, 0, 10, 1);
        x.owner(0, 0, 200, 20);
        Check.due("pollinate(0, 30)", x.pollinate(0, 30), 30);
        Check.due("of(0, 10)", x.of(0, 10), 30);
        Check.denies(x, -4, "pollinate(0, 11)", () -> x.pollinate(0, 11));
        Check.denies(x, -3, "-3 goes ahead of -4", () -> x.pollinate(0, 21));
        Check.due("pollinate(0, 10)", x.pollinate(0, 10), 40);
        Check.denies(x, -4, "pollinate(0, 1)", () -> x.pollinate(0, 1));
        Check.denies(x, -3, "pollinate(1, 11)", () -> x.pollinate(1, 11));
        Check.due("pollinate(1, 9)", x.pollinate(1, 9), 9);
        Check.denies(x, -3, "pollinate(1, 2)", () -> x.pollinate(1, 2));
        Check.due("pollinate(1, 1)", x.pollinate(1, 1), 10);
        Check.due("pollinate(2, 200)", x.pollinate(2, 200), 200);
        Check.due("pollen, used or not", x.of(2, 11), 400);
        for (int number : new int[] {-1, 3, 10, Integer.MIN_VALUE, Integer.MAX_VALUE}) {
            Check.refuses(x, INDEX, "pollinate(" + number + ", 0)", () -> x.pollinate(number, 0));
        }
        for (int palms : new int[] {0, -1, 201, Integer.MAX_VALUE, Integer.MIN_VALUE}) {
            Check.refuses(x, ARGUMENT, "pollinate(0, " + palms + ")", () -> x.pollinate(0, palms));
        }
    }

    private static void promise10Time() {
        OasisBooks x = new OasisBooks();
        x.owner(5040, 0, 200, 20);
        x.pass(30, 13);
        Check.due("on the DATE 13", x.pollinate(0, 1), 1);
        x.pass(30, 1);
        Check.denies(x, -2, "on the DATE 14", () -> x.pollinate(0, 1));
        Check.denies(x, -2, "-2 goes ahead of -3", () -> x.pollinate(0, 200));
        Check.refuses(x, ARGUMENT, "an exception goes ahead of -2", () -> x.pollinate(0, 201));
        x.pass(30, 55);
        Check.denies(x, -2, "on the DATE 69", () -> x.pollinate(0, 1));
        Check.due("behind a harvest none are", x.of(0, 10), 0);
        x.pass(30, 1);
        Check.due("on the DATE 0", x.pollinate(0, 2), 2);
    }

    private static void promise11Pollen() {
        OasisBooks x = new OasisBooks();
        x.owner(0, 0, 30, 2);
        x.owner(0, 30, 50, 0);
        x.owner(0, 300, 50, 1);
        x.pollinate(0, 25);
        Check.due("pollen(0, 1, 10)", x.pollen(0, 1, 10), 10);
        Check.due("buyer's COINS", x.of(1, 1), 20);
        Check.due("seller's COINS", x.of(0, 1), 10);
        Check.due("seller's pollen", x.of(0, 11), 30);
        Check.denies(x, -4, "pollen(0, 1, 6)", () -> x.pollen(0, 1, 6));
        Check.denies(x, -3, "-3 goes ahead of -4", () -> x.pollen(0, 1, 21));
        Check.due("pollen(0, 1, 5)", x.pollen(0, 1, 5), 15);
        Check.denies(x, -4, "pollen(0, 1, 1)", () -> x.pollen(0, 1, 1));
        Check.denies(x, -4, "no more pollen for his PALMS", () -> x.pollinate(0, 1));
        Check.due("bought pollen is used", x.pollinate(1, 15), 15);
        Check.denies(x, -4, "bought pollen is used up", () -> x.pollinate(1, 1));
        Check.denies(x, -4, "used pollen is not sold", () -> x.pollen(1, 2, 1));
        Check.due("all that there is", x.pollen(2, 1, 15), 30);
        Check.due("all COINS", x.of(1, 1), 0);
        Check.due("bought pollen is sold", x.pollen(1, 2, 12), 17);
        x.pass(36, 59);
        Check.due("pollen on the DATE 59", x.of(0, 11), 25);
        Check.due("pollen is bought at any time", x.pollen(2, 1, 1), 19);
        x.pass(36, 1);
        Check.due("pollen behind the harvest: seller", x.of(0, 11), 40);
        Check.due("pollen behind the harvest: buyer", x.of(1, 11), 0);
        Check.due("pollen behind the harvest: both", x.of(2, 11), 20);
    }

    private static void promise11Wrong() {
        OasisBooks x = new OasisBooks();
        x.owner(1, 9999, 0, 20);
        x.owner(0, 9999, 0, 20);
        for (int[] w : new int[][] {{-1, 0}, {0, -1}, {2, 0}, {0, 2}, {5, 5}}) {
            Check.refuses(x, INDEX, "pollen" + java.util.Arrays.toString(w), () -> x.pollen(w[0], w[1], 0));
        }
        for (int[] w : new int[][] {{0, 0, 1}, {0, 1, 0}, {0, 1, -1}, {0, 1, 201}}) {
            Check.refuses(x, ARGUMENT, "pollen" + java.util.Arrays.toString(w),
                () -> x.pollen(w[0], w[1], w[2]));
        }
        Check.due("pollen(0, 1, 200)", x.pollen(0, 1, 200), 600);
        Check.due("pollen(0, 1, 200)", x.pollen(0, 1, 200), 800);
        Check.due("the last pollen", x.of(0, 11), 0);
        Check.denies(x, -4, "pollen(0, 1, 1)", () -> x.pollen(0, 1, 1));
    }

    private static void promise12Ahead() {
        OasisBooks x = new OasisBooks();
        x.owner(100, 10, 0, 0);
        x.owner(0, 9999, 0, 0);
        Check.due("ahead(0, 1, 999, 9999)", x.ahead(0, 1, 999, 9999), 1);
        Check.due("buyer's COINS", x.of(1, 1), 0);
        Check.due("seller's COINS", x.of(0, 1), 10009);
        Check.denies(x, -3, "ahead for a COIN more", () -> x.ahead(0, 1, 1, 1));
        Check.due("ahead for 0 COINS", x.ahead(0, 1, 1, 0), 2);
        Check.due("ofSale(0, 2)", x.ofSale(0, 2), 999);
        Check.due("ofSale(1, 0)", x.ofSale(1, 0), 0);
        Check.due("ofSale(1, 1)", x.ofSale(1, 1), 1);
        Check.due("ofSale(1, 2)", x.ofSale(1, 2), 1);
        x.sell(0, 1, 100, 0);
        x.dig(1);
        Check.due("COINS below 0", x.of(1, 1), -9);
        Check.denies(x, -3, "ahead for 0 to one below 0 COINS", () -> x.ahead(0, 1, 1, 0));
        for (int sale = 3; sale <= 8; sale++) {
            Check.due("sale " + sale, x.ahead(1, 0, sale, 1), sale);
        }
        Check.due("kilos of the 8th sale", x.ofSale(7, 2), 8);
        Check.refuses(x, STATE, "a 9th sale", () -> x.ahead(1, 0, 1, 0));
        Check.refuses(x, STATE, "a 9th sale for too much", () -> x.ahead(0, 1, 1, 9999));
        Check.refuses(x, ARGUMENT, "a 9th sale to oneself", () -> x.ahead(1, 1, 1, 0));
        Check.refuses(x, INDEX, "a 9th sale to nobody", () -> x.ahead(1, 2, 1, 0));
    }

    private static void promise12Wrong() {
        OasisBooks x = new OasisBooks();
        x.owner(1, 9999, 0, 0);
        x.owner(0, 9999, 0, 0);
        for (int[] w : new int[][] {{-1, 0}, {0, -1}, {2, 0}, {0, 2}, {5, 5}}) {
            Check.refuses(x, INDEX, "ahead" + java.util.Arrays.toString(w), () -> x.ahead(w[0], w[1], 0, -1));
        }
        int[][] wrong = {{0, 0, 1, 0}, {0, 1, 0, 0}, {0, 1, -1, 0}, {0, 1, 1000, 0}, {0, 1, 1, -1},
            {0, 1, 1, 10000}};
        for (int[] w : wrong) {
            Check.refuses(x, ARGUMENT, "ahead" + java.util.Arrays.toString(w),
                () -> x.ahead(w[0], w[1], w[2], w[3]));
        }
    }

    public static void main(String[] args) {
        promise10Pollinate();
        promise10Time();
        promise11Pollen();
        promise11Wrong();
        promise12Ahead();
        promise12Wrong();
        Check.end();
    }
}
