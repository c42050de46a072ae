/** Promises 14 to 19: what one asks. */
public final class AskTest {
    private static final Class<IndexOutOfBoundsException> INDEX = IndexOutOfBoundsException.class;
    private static final Class<IllegalArgumentException> ARGUMENT = IllegalArgumentException.class;
    private static final int[] NO_WHAT = {-1, Integer.MIN_VALUE, Integer.MAX_VALUE};

    private AskTest() {
    }

    /** On the DAY 8, by then with a TABLE that stayed at 200 and a FLOW of 11: each number is another one. */
    private static OasisBooks full() {
        OasisBooks x = new OasisBooks();
        x.owner(800, 70, 60, 2);
        x.owner(1000, 90, 40, 3);
        x.owner(0, 9, 0, 0);
        x.die(2, 1, 0);
        x.pollinate(0, 30);
        x.pollen(0, 1, 4);
        x.lend(1, 0, 300, 5);
        x.lend(1, 3, 100, 2);
        x.ahead(0, 1, 77, 11);
        x.fall(3);
        x.dig(5);
        x.pump(1);
        x.pass(36, 8);
        x.pump(2);
        return x;
    }

    private static void promise14Of() {
        OasisBooks x = full();
        int[][] want = {{800, 65, 60, 2, 93, 2, 0, 0, 0, 1100, 30, 36, 880, 12980},
            {1000, 50, 40, 3, 82, 2, 0, 1, 800, 600, 0, 64, 6468, 12936},
            {0, 9, 0, 0, 50, 0, 0, 2, -1, 100, 0, 0, 422, 1477}};
        int[] owners = {0, 1, 3};
        for (int i = 0; i < owners.length; i++) {
            for (int what = 0; what < 14; what++) {
                Check.due("of(" + owners[i] + ", " + what + ")", x.of(owners[i], what), want[i][what]);
            }
        }
        for (int number : new int[] {-1, 2, 4, 10, Integer.MIN_VALUE, Integer.MAX_VALUE}) {
            Check.refuses(x, INDEX, "of(" + number + ", 0)", () -> x.of(number, 0));
            Check.refuses(x, INDEX, "of(" + number + ", 14)", () -> x.of(number, 14));
        }
        Check.refuses(x, ARGUMENT, "of(0, 14)", () -> x.of(0, 14));
        for (int what : NO_WHAT) {
            Check.refuses(x, ARGUMENT, "of(0, " + what + ")", () -> x.of(0, what));
        }
    }

    private static void promise14Litres() {
        OasisBooks x = new OasisBooks();
        x.owner(730, 0, 3, 0);
        x.owner(1000, 0, 40, 0);
        x.pass(36, 8);
        int[][] want = {{4, 93}, {5, 1}, {12, 120}, {13, 8880}};
        for (int[] w : want) {
            Check.due("of(0, " + w[0] + ")", x.of(0, w[0]), w[1]);
        }
        want = new int[][] {{4, 93}, {5, 3}, {12, 8349}, {13, 8349 + 8349 + 3410}};
        for (int[] w : want) {
            Check.due("of(1, " + w[0] + ")", x.of(1, w[0]), w[1]);
        }
    }

    private static void promise15OfBowl() {
        OasisBooks x = full();
        int[][] want = {{0, 0, 0}, {799, 0, 0}, {800, 1, 1}, {1399, 1, 1}, {1400, 1, 3}, {1499, 1, 3},
            {1500, 1, 0}, {1799, 1, 0}, {1800, -1, -1}, {5039, -1, -1}};
        for (int[] w : want) {
            Check.due("ofBowl(" + w[0] + ", 0)", x.ofBowl(w[0], 0), w[1]);
            Check.due("ofBowl(" + w[0] + ", 1)", x.ofBowl(w[0], 1), w[2]);
        }
        for (int bowl : new int[] {-1, 5040, Integer.MIN_VALUE, Integer.MAX_VALUE}) {
            Check.refuses(x, INDEX, "ofBowl(" + bowl + ", 0)", () -> x.ofBowl(bowl, 0));
            Check.refuses(x, INDEX, "ofBowl(" + bowl + ", 2)", () -> x.ofBowl(bowl, 2));
        }
        Check.refuses(x, ARGUMENT, "ofBowl(0, 2)", () -> x.ofBowl(0, 2));
        for (int what : NO_WHAT) {
            Check.refuses(x, ARGUMENT, "ofBowl(5039, " + what + ")", () -> x.ofBowl(5039, what));
        }
    }

    private static void promise16OfLoan() {
        OasisBooks x = full();
        int[][] want = {{1, 0, 300, 4}, {1, 3, 100, 1}};
        for (int loan = 0; loan < 2; loan++) {
            for (int what = 0; what < 4; what++) {
                Check.due("ofLoan(" + loan + ", " + what + ")", x.ofLoan(loan, what), want[loan][what]);
            }
        }
        for (int loan : new int[] {-1, 2, 8, Integer.MIN_VALUE, Integer.MAX_VALUE}) {
            Check.refuses(x, INDEX, "ofLoan(" + loan + ", 0)", () -> x.ofLoan(loan, 0));
            Check.refuses(x, INDEX, "ofLoan(" + loan + ", 4)", () -> x.ofLoan(loan, 4));
        }
        Check.refuses(x, ARGUMENT, "ofLoan(0, 4)", () -> x.ofLoan(0, 4));
        for (int what : NO_WHAT) {
            Check.refuses(x, ARGUMENT, "ofLoan(1, " + what + ")", () -> x.ofLoan(1, what));
        }
    }

    private static void promise17OfSale() {
        OasisBooks x = full();
        x.ahead(1, 3, 999, 0);
        int[][] want = {{0, 1, 77}, {1, 3, 999}};
        for (int sale = 0; sale < 2; sale++) {
            for (int what = 0; what < 3; what++) {
                Check.due("ofSale(" + sale + ", " + what + ")", x.ofSale(sale, what), want[sale][what]);
            }
        }
        for (int sale : new int[] {-1, 2, 8, Integer.MIN_VALUE, Integer.MAX_VALUE}) {
            Check.refuses(x, INDEX, "ofSale(" + sale + ", 0)", () -> x.ofSale(sale, 0));
            Check.refuses(x, INDEX, "ofSale(" + sale + ", 3)", () -> x.ofSale(sale, 3));
        }
        Check.refuses(x, ARGUMENT, "ofSale(0, 3)", () -> x.ofSale(0, 3));
        for (int what : NO_WHAT) {
            Check.refuses(x, ARGUMENT, "ofSale(1, " + what + ")", () -> x.ofSale(1, what));
        }
    }

    private static void promise18Many() {
        OasisBooks x = full();
        int[] want = {8, 8, 200, 11, 45, 3, 2, 3, 4, 3240, 2, 1, 35640, 327, 0, 124};
        for (int what = 0; what < want.length; what++) {
            Check.due("many(" + what + ")", x.many(what), want[what]);
        }
        Check.refuses(x, ARGUMENT, "many(16)", () -> x.many(16));
        for (int what : NO_WHAT) {
            Check.refuses(x, ARGUMENT, "many(" + what + ")", () -> x.many(what));
        }
    }

    private static void promise19MeanMoist() {
        OasisBooks x = new OasisBooks();
        Check.due("meanMoist() without OWNERS", x.meanMoist(), 0.0);
        x.owner(0, 0, 0, 0);
        Check.due("meanMoist() of one", x.meanMoist(), 50.0);
        x.owner(0, 0, 5, 0);
        x.owner(0, 0, 0, 0);
        x.pass(0, 1);
        Check.due("meanMoist() of 50, 44 and 50", x.meanMoist(), 144.0 / 3);
        x.pass(0, 1);
        Check.due("meanMoist() of 50, 38 and 50", x.meanMoist(), 46.0);
        x.die(1, 2, 2);
        Check.due("meanMoist() of 50, four times 38, and 50", x.meanMoist(), 42.0);
        x.die(3, 1, 0);
        x.owner(0, 0, 0, 0);
        Check.due("meanMoist(), not rounded", x.meanMoist(), 302.0 / 7);
    }

    public static void main(String[] args) {
        promise14Of();
        promise14Litres();
        promise15OfBowl();
        promise16OfLoan();
        promise17OfSale();
        promise18Many();
        promise19MeanMoist();
        Check.end();
    }
}
