/** Promises 6 to 9: the CHANNEL is dug, cleaned, falls in, and the PUMP is set. */
public final class ChannelTest {
    private static final Class<IllegalArgumentException> ARGUMENT = IllegalArgumentException.class;
    private static final Class<IllegalStateException> STATE = IllegalStateException.class;

    private ChannelTest() {
    }

    /** OWNERS with 0, 100, 200 and 700 BOWLS, each with 100 COINS. */
    private static OasisBooks four() {
        OasisBooks x = new OasisBooks();
        for (int bowls : new int[] {0, 100, 200, 700}) {
            x.owner(bowls, 100, 0, 0);
        }
        return x;
    }

    private static void coins(String when, OasisBooks x, int... want) {
        for (int owner = 0; owner < want.length; owner++) {
            Check.due(when + ": COINS of " + owner, x.of(owner, 1), want[owner]);
        }
    }

    private static void promise6Dig() {
        OasisBooks x = four();
        Check.due("dig(1)", x.dig(1), 9);
        coins("dig(1)", x, 98, 100, 99, 94);
        Check.due("LENGTH", x.many(4), 41);
        Check.due("dig(8)", x.dig(8), 72);
        coins("dig(8)", x, 97, 93, 85, 44);
        Check.due("dig(11), at the price ahead of it", x.dig(11), 99);
        Check.due("LENGTH", x.many(4), 60);
        Check.due("dig(1) at 60", x.dig(1), 11);
        Check.due("COINS below 0", x.of(3, 1), -32);
        Check.refuses(x, STATE, "LENGTH 91", () -> x.dig(30));
        Check.due("LENGTH 90", x.dig(29), 319);
        Check.due("LENGTH", x.many(4), 90);
        Check.due("FLOW", x.many(3), 17);
        Check.refuses(x, STATE, "LENGTH 91", () -> x.dig(1));
        Check.refuses(x, STATE, "LENGTH 170", () -> x.dig(80));
        Check.refuses(x, ARGUMENT, "dig(81) at LENGTH 90", () -> x.dig(81));
    }

    private static void promise6LastOnesPay() {
        OasisBooks x = new OasisBooks();
        x.owner(1, 0, 0, 0);
        x.owner(1, 0, 0, 0);
        x.die(0, 1, 1);
        Check.due("dig(1)", x.dig(1), 9);
        Check.due("the first in the ROW pays what is left over", x.of(2, 1), -5);
        Check.due("one without BOWLS", x.of(3, 1), 0);
        Check.due("the other one", x.of(1, 1), -4);
    }

    private static void promise6Wrong() {
        for (OasisBooks x : new OasisBooks[] {new OasisBooks(), four()}) {
            for (int length : new int[] {0, -1, 81, Integer.MAX_VALUE, Integer.MIN_VALUE}) {
                Check.refuses(x, ARGUMENT, "dig(" + length + ")", () -> x.dig(length));
            }
            Check.refuses(x, STATE, "dig(51)", () -> x.dig(51));
        }
        OasisBooks none = new OasisBooks();
        Check.refuses(none, STATE, "dig without OWNERS", () -> none.dig(1));
        none.owner(0, 100, 0, 0);
        Check.refuses(none, STATE, "dig without BOWLS", () -> none.dig(1));
        none.owner(1, 0, 0, 0);
        Check.due("dig(50) by one BOWL", none.dig(50), 450);
        coins("dig(50)", none, 100, -450);
    }

    private static void promise7Clean() {
        OasisBooks x = four();
        x.fall(30);
        Check.due("clean(7)", x.clean(7), 21);
        coins("clean(7)", x, 99, 98, 96, 86);
        Check.due("MUD", x.many(5), 23);
        Check.due("FLOW", x.many(3), 7);
        Check.refuses(x, STATE, "clean(24)", () -> x.clean(24));
        Check.due("clean(23)", x.clean(23), 69);
        Check.due("MUD", x.many(5), 0);
        Check.refuses(x, STATE, "clean(1)", () -> x.clean(1));
        x.fall(30);
        Check.due("clean(30)", x.clean(30), 90);
        for (int mud : new int[] {0, -1, 31, Integer.MAX_VALUE, Integer.MIN_VALUE}) {
            Check.refuses(x, ARGUMENT, "clean(" + mud + ")", () -> x.clean(mud));
        }
        OasisBooks none = new OasisBooks();
        none.fall(5);
        Check.refuses(none, STATE, "clean without OWNERS", () -> none.clean(1));
        none.owner(0, 0, 0, 0);
        Check.refuses(none, STATE, "clean without BOWLS", () -> none.clean(1));
        none.owner(1, 0, 0, 0);
        Check.due("clean with one BOWL", none.clean(1), 3);
    }

    private static void promise8Fall() {
        OasisBooks x = new OasisBooks();
        Check.due("fall(1)", x.fall(1), 1);
        Check.due("fall(28)", x.fall(28), 29);
        Check.due("MUD", x.many(5), 29);
        Check.due("fall(1)", x.fall(1), 30);
        Check.due("fall(1) at 30", x.fall(1), 30);
        Check.due("fall(30) at 30", x.fall(30), 30);
        Check.due("FLOW", x.many(3), 6);
        for (int mud : new int[] {0, -1, 31, Integer.MAX_VALUE, Integer.MIN_VALUE}) {
            Check.refuses(x, ARGUMENT, "fall(" + mud + ")", () -> x.fall(mud));
        }
    }

    private static void promise9Pump() {
        OasisBooks x = new OasisBooks();
        Check.due("pump(20)", x.pump(20), 0);
        Check.due("DRAW", x.many(6), 20);
        x.pass(0, 1);
        Check.due("TABLE", x.many(2), 168);
        Check.due("pump(7)", x.pump(7), 20);
        Check.due("pump(0)", x.pump(0), 7);
        Check.due("DRAW", x.many(6), 0);
        for (int draw : new int[] {-1, 21, Integer.MAX_VALUE, Integer.MIN_VALUE}) {
            Check.refuses(x, ARGUMENT, "pump(" + draw + ")", () -> x.pump(draw));
        }
    }

    public static void main(String[] args) {
        promise6Dig();
        promise6LastOnesPay();
        promise6Wrong();
        promise7Clean();
        promise8Fall();
        promise9Pump();
        Check.end();
    }
}
