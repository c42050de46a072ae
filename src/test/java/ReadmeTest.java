/** The answers that README.md tells of its example. */
public final class ReadmeTest {
    private ReadmeTest() {
    }

    private static void example() {
        OasisBooks x = new OasisBooks();
        int a = x.owner(720, 50, 20, 1);
        int b = x.owner(900, 80, 40, 2);
        Check.due("the numbers of both", Look.text(a, b), Look.text(0, 1));
        Check.due("pollinate(a, 20)", x.pollinate(a, 20), 20);
        Check.due("lend(b, a, 300, 2)", x.lend(b, a, 300, 2), 1);
        Check.due("pass(30, 7)", x.pass(30, 7), 17688);
        Check.due("of(a, 4)", x.of(a, 4), 93);
        Check.due("wouldReap(a, 30)", x.wouldReap(a, 30), 100);
        Check.due("sell(a, b, 721, 0)", x.sell(a, b, 721, 0), -2);
        Check.leaves("x.of(2, 0)", () -> Given.bowls(720, 900), y -> y.of(2, 0), Check.INDEX);
    }

    public static void main(String[] args) {
        Check.that("README.md: the example", ReadmeTest::example);
        Check.end();
    }
}
