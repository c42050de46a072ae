/** Promises 6 to 9, and the costs of section 4: the CHANNEL is dug, cleaned, falls in, and the PUMP is set. */
public final class ChannelTest {
    private ChannelTest() {
    }

    private static OasisBooks dugTo(int length) {
        OasisBooks x = Given.whole();
        if (length > 40) {
            x.dig(length - 40);
        }
        return x;
    }

    private static OasisBooks muddy(int mud) {
        OasisBooks x = Given.bowls(1);
        if (mud > 0) {
            x.fall(mud);
        }
        return x;
    }

    private static void coins(String when, OasisBooks x, int... want) {
        int[] got = new int[want.length];
        for (int owner = 0; owner < want.length; owner++) {
            got[owner] = x.of(owner, 1);
        }
        Check.due("COINS " + when, Look.text(got), Look.text(want));
    }

    private static void digRange() {
        Check.range("dig", Given::whole, (x, n) -> x.dig(n), 1, "9", 80, Check.STATE);
    }

    private static void lengthNinety() {
        for (int length : new int[] {40, 41, 50, 70, 88, 89}) {
            OasisBooks x = dugTo(length);
            x.dig(90 - length);
            Check.due("LENGTH", x.many(4), 90);
            Check.leaves("to 91 from " + length, () -> dugTo(length), y -> y.dig(91 - length), Check.STATE);
        }
        Check.leaves("one more than 90", () -> dugTo(90), x -> x.dig(1), Check.STATE);
        Check.leaves("80 more than 90", () -> dugTo(90), x -> x.dig(80), Check.STATE);
    }

    private static void digWithoutBowls() {
        Check.leaves("dig(1) without OWNERS", OasisBooks::new, x -> x.dig(1), Check.STATE);
        Check.leaves("dig(50) without OWNERS", OasisBooks::new, x -> x.dig(50), Check.STATE);
        Check.leaves("dig(1) without BOWLS", () -> Given.bowls(0, 0), x -> x.dig(1), Check.STATE);
        Check.due("dig(1) with one BOWL", Given.bowls(0, 1).dig(1), 9);
    }

    private static void digArgumentFirst() {
        for (int length : new int[] {0, -1, 81, Integer.MAX_VALUE}) {
            Check.leaves("dig(" + length + ") at LENGTH 90", () -> dugTo(90), x -> x.dig(length), Check.ARGUMENT);
            Check.leaves("dig(" + length + ") without OWNERS", OasisBooks::new, x -> x.dig(length), Check.ARGUMENT);
        }
    }

    private static void priceAheadOfTheCall() {
        int[][] want = {{40, 1, 9}, {40, 50, 450}, {49, 1, 9}, {49, 2, 18}, {50, 1, 10}, {59, 3, 30}, {60, 1, 11},
            {69, 21, 231}, {70, 1, 12}, {79, 1, 12}, {80, 10, 130}, {89, 1, 13}};
        for (int[] w : want) {
            OasisBooks x = dugTo(w[0]);
            int coins = x.of(0, 1);
            Check.due("dig(" + w[1] + ") at LENGTH " + w[0], x.dig(w[1]), w[2]);
            Check.due("COINS paid", coins - x.of(0, 1), w[2]);
            Check.due("LENGTH", x.many(4), w[0] + w[1]);
        }
    }

    private static void flowBehindDigging() {
        OasisBooks x = Given.whole();
        x.dig(9);
        Check.due("FLOW at LENGTH 49", x.many(3), 12);
        x.dig(1);
        Check.due("FLOW at LENGTH 50", x.many(3), 13);
    }

    private static OasisBooks hundredEach(int... bowls) {
        int[][] each = new int[bowls.length][];
        for (int owner = 0; owner < bowls.length; owner++) {
            each[owner] = new int[] {bowls[owner], 100, 0, 0};
        }
        return Given.owners(each);
    }

    private static void sharedByBowls() {
        OasisBooks x = hundredEach(0, 100, 200, 700);
        x.dig(1);
        coins("behind 9, of which 2 are left over", x, 98, 100, 99, 94);
        x.dig(8);
        coins("behind 72, of which 1 is left over", x, 97, 93, 85, 44);
        OasisBooks y = hundredEach(4, 5);
        y.dig(1);
        coins("behind 9, of which none is left over", y, 96, 95);
        OasisBooks z = hundredEach(1, 1, 1, 1);
        z.dig(1);
        coins("behind 9 for 4 alike", z, 97, 98, 98, 98);
        OasisBooks few = hundredEach(1, 1, 1, 1, 1, 1, 1, 1, 1, 1);
        few.dig(1);
        coins("behind 9 for 10 alike", few, 91, 100, 100, 100, 100, 100, 100, 100, 100, 100);
    }

    private static void firstInTheRowPaysTheRest() {
        OasisBooks x = Given.bowls(1, 1);
        x.die(0, 1, 1);
        x.dig(1);
        Check.due("the first in the ROW", x.of(2, 1), -5);
        Check.due("the next one, without BOWLS", x.of(3, 1), 0);
        Check.due("the one with the lowest number", x.of(1, 1), -4);
        OasisBooks y = hundredEach(0, 0, 2, 1);
        y.dig(1);
        coins("behind 9 without a rest", y, 100, 100, 94, 97);
        y.dig(1);
        y.dig(8);
        coins("behind 9 and 72", y, 100, 100, 40, 70);
        y.dig(1);
        coins("behind 10 with a rest of 1", y, 99, 100, 34, 67);
    }

    private static void coinsBelowZero() {
        OasisBooks x = Given.owners(new int[] {1, 9, 0, 0});
        x.dig(1);
        coins("behind all 9", x, 0);
        x.dig(1);
        coins("behind 9 more", x, -9);
        OasisBooks y = Given.owners(new int[] {0, 0, 0, 0}, new int[] {7, 1, 0, 0}, new int[] {7, 1, 0, 0});
        y.dig(1);
        coins("behind 9, of which 1 is left over", y, -1, -3, -3);
    }

    private static void lentOnesArePaidByTheOwner() {
        OasisBooks x = Given.bowls(9, 0);
        x.lend(0, 1, 9, 1);
        x.dig(1);
        coins("of who has lent all, and of the USER", x, -9, 0);
    }

    private static void cleanRange() {
        Check.range("clean", () -> muddy(30), (x, n) -> x.clean(n), 1, "3", 30, "90");
    }

    private static void mudOrOneMore() {
        for (int mud : new int[] {1, 2, 17, 29, 30}) {
            OasisBooks x = muddy(mud);
            Check.due("clean all of " + mud, x.clean(mud), 3 * mud);
            Check.due("MUD", x.many(5), 0);
            Check.due("COINS", x.of(0, 1), -3 * mud);
        }
        for (int mud : new int[] {0, 1, 2, 17, 29}) {
            Check.leaves("clean one more than " + mud, () -> muddy(mud), x -> x.clean(mud + 1), Check.STATE);
            Check.leaves("clean 30 of " + mud, () -> muddy(mud), x -> x.clean(30), Check.STATE);
        }
        OasisBooks some = muddy(30);
        some.clean(7);
        Check.due("MUD that is left", some.many(5), 23);
        Check.due("FLOW then", some.many(3), 7);
    }

    private static OasisBooks muddyWithout(int owners) {
        OasisBooks x = Given.bowls(new int[owners]);
        x.fall(5);
        return x;
    }

    private static void cleanWithoutBowls() {
        Check.leaves("clean(1) without OWNERS", () -> muddyWithout(0), x -> x.clean(1), Check.STATE);
        Check.leaves("clean(1) without BOWLS", () -> muddyWithout(2), x -> x.clean(1), Check.STATE);
        OasisBooks x = muddyWithout(2);
        x.owner(1, 0, 0, 0);
        Check.due("clean(5) with one BOWL", x.clean(5), 15);
    }

    private static void cleanArgumentFirst() {
        for (int mud : new int[] {0, -1, 31, Integer.MAX_VALUE, Integer.MIN_VALUE}) {
            Check.leaves("clean(" + mud + ") without MUD", () -> muddy(0), x -> x.clean(mud), Check.ARGUMENT);
            Check.leaves("clean(" + mud + ") without OWNERS", OasisBooks::new, x -> x.clean(mud), Check.ARGUMENT);
        }
    }

    private static void cleaningIsShared() {
        OasisBooks x = hundredEach(0, 100, 200, 700);
        x.fall(30);
        x.clean(7);
        coins("behind 21, of which 1 is left over", x, 99, 98, 96, 86);
        x.clean(1);
        coins("behind 3, of which 1 is left over", x, 98, 98, 96, 84);
    }

    private static void fallRange() {
        Check.range("fall", OasisBooks::new, (x, n) -> x.fall(n), 1, "1", 30, "30");
        Check.range("fall at MUD 30", () -> muddy(30), (x, n) -> x.fall(n), 1, "30", 30, "30");
    }

    private static void mudThirtyAtMost() {
        int[][] want = {{28, 1, 29}, {29, 1, 30}, {29, 2, 30}, {30, 1, 30}, {1, 28, 29}, {1, 29, 30}, {1, 30, 30},
            {15, 15, 30}, {15, 16, 30}, {30, 30, 30}};
        for (int[] w : want) {
            OasisBooks x = muddy(w[0]);
            Check.due("fall(" + w[1] + ") at MUD " + w[0], x.fall(w[1]), w[2]);
            Check.due("MUD", x.many(5), w[2]);
        }
        Check.due("FLOW at MUD 30", muddy(30).many(3), 6);
    }

    private static void fallWithoutOwners() {
        OasisBooks x = new OasisBooks();
        Check.due("fall(3)", x.fall(3), 3);
        Check.due("many(0 to 15)", Look.many(x), Look.text(0, 0, 200, 11, 40, 3, 0, 0, 0, 5040, 0, 0, 0, 0, 0, 0));
    }

    private static void pumpRange() {
        Check.range("pump", OasisBooks::new, (x, n) -> x.pump(n), 0, "0", 20, "0");
    }

    private static void drawBefore() {
        OasisBooks x = new OasisBooks();
        int[][] want = {{20, 0}, {20, 20}, {0, 20}, {0, 0}, {7, 0}, {1, 7}};
        for (int[] w : want) {
            Check.due("pump(" + w[0] + ")", x.pump(w[0]), w[1]);
            Check.due("DRAW", x.many(6), w[0]);
        }
        Check.due("TABLE until a DAY goes by", x.many(2), 200);
        x.pass(0, 1);
        Check.due("TABLE behind it", x.many(2), 187);
        Check.due("DRAW behind it", x.many(6), 1);
    }

    public static void main(String[] args) {
        Check.that("promise 6: length 1 to 80", ChannelTest::digRange);
        Check.that("promise 6: LENGTH would be above 90", ChannelTest::lengthNinety);
        Check.that("promise 6: no OWNER has BOWLS", ChannelTest::digWithoutBowls);
        Check.that("promise 6: IllegalArgument goes ahead of IllegalState", ChannelTest::digArgumentFirst);
        Check.that("section 4: 5 and LENGTH / 10, as it is ahead of the call", ChannelTest::priceAheadOfTheCall);
        Check.that("section 1: the FLOW with the LENGTH", ChannelTest::flowBehindDigging);
        Check.that("section 4: cost times BOWLS, divided by all their BOWLS", ChannelTest::sharedByBowls);
        Check.that("section 4: the first one pays what is left over", ChannelTest::firstInTheRowPaysTheRest);
        Check.that("section 4: COINS can be below 0 by that", ChannelTest::coinsBelowZero);
        Check.that("section 4: by BOWLS, lent or not", ChannelTest::lentOnesArePaidByTheOwner);
        Check.that("promise 7: mud 1 to 30", ChannelTest::cleanRange);
        Check.that("promise 7: there is not so much", ChannelTest::mudOrOneMore);
        Check.that("promise 7: no OWNER has BOWLS", ChannelTest::cleanWithoutBowls);
        Check.that("promise 7: IllegalArgument goes ahead of IllegalState", ChannelTest::cleanArgumentFirst);
        Check.that("section 4: 3 for each of MUD, shared", ChannelTest::cleaningIsShared);
        Check.that("promise 8: mud 1 to 30", ChannelTest::fallRange);
        Check.that("promise 8: MUD is 30 at most", ChannelTest::mudThirtyAtMost);
        Check.that("promise 8: without OWNERS", ChannelTest::fallWithoutOwners);
        Check.that("promise 9: draw 0 to 20", ChannelTest::pumpRange);
        Check.that("promise 9: the DRAW before", ChannelTest::drawBefore);
        Check.end();
    }
}
