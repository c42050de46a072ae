import java.util.function.IntSupplier;
import java.util.function.Supplier;

/** Runs the tests of single sentences of the document, and counts those that do not hold. */
final class Check {
    static final String INDEX = "throws.IndexOutOfBoundsException";
    static final String ARGUMENT = "throws.IllegalArgumentException";
    static final String STATE = "throws.IllegalStateException";

    private static String sentence = "";
    private static int passed;
    private static int failed;
    private static int asked;
    private static int wrong;

    private Check() {
    }

    interface Call {
        int on(OasisBooks x);
    }

    interface CallWith {
        int on(OasisBooks x, int n);
    }

    /** Tests one sentence; a test that asks nothing, or that throws, fails. */
    static void that(String itsSentence, Runnable test) {
        sentence = itsSentence;
        asked = 0;
        wrong = 0;
        try {
            test.run();
        } catch (RuntimeException e) {
            due("the test itself", "throws." + e.getClass().getSimpleName(), "nothing thrown");
        }
        if (asked == 0) {
            due("the test itself", "nothing asked", "something asked");
        }
        if (wrong == 0) {
            passed++;
        } else {
            failed++;
        }
    }

    static void due(String call, long got, long want) {
        due(call, String.valueOf(got), String.valueOf(want));
    }

    static void due(String call, double got, double want) {
        due(call, String.valueOf(got), String.valueOf(want));
    }

    static void due(String call, boolean got, boolean want) {
        due(call, String.valueOf(got), String.valueOf(want));
    }

    static void due(String call, String got, String want) {
        asked++;
        if (!got.equals(want)) {
            wrong++;
            System.out.println(sentence + ": " + call + " answered " + got + ", due is " + want);
        }
    }

    static String outcome(IntSupplier run) {
        try {
            return String.valueOf(run.getAsInt());
        } catch (RuntimeException e) {
            return "throws." + e.getClass().getSimpleName();
        }
    }

    /** The call has to answer this on the oasis given, and to leave it as it is. */
    static void leaves(String call, Supplier<OasisBooks> given, Call run, String want) {
        OasisBooks x = given.get();
        due(call, outcome(() -> run.on(x)), want);
        due("behind " + call + " all", Look.at(x), Look.at(given.get()));
    }

    /** The same of a call that answers a number below 0, or asks only. */
    static void leaves(String call, Supplier<OasisBooks> given, Call run, int want) {
        leaves(call, given, run, String.valueOf(want));
    }

    /** The numbers at both ends are taken and answered so; those beyond them are refused, and nothing is changed. */
    static void range(String call, Supplier<OasisBooks> given, CallWith run, int least, String atLeast, int most,
            String atMost) {
        OasisBooks x = given.get();
        due(call + " with " + least, outcome(() -> run.on(x, least)), atLeast);
        OasisBooks y = given.get();
        due(call + " with " + most, outcome(() -> run.on(y, most)), atMost);
        beyond(call, given, run, least, most, ARGUMENT);
    }

    /** The numbers beyond both ends, -1 always among them, are refused so, and nothing is changed. */
    static void beyond(String call, Supplier<OasisBooks> given, CallWith run, int least, int most, String want) {
        for (int n : new int[] {least - 1, most + 1, -1, Integer.MIN_VALUE, Integer.MAX_VALUE}) {
            leaves(call + " with " + n, given, x -> run.on(x, n), want);
        }
    }

    /** Who does not live is refused: below 0, dead, not yet told, and beyond the last that can be. */
    static void nobody(String call, CallWith run) {
        for (int n : new int[] {-1, Given.DEAD, Given.EVER, 9, 10, Integer.MIN_VALUE, Integer.MAX_VALUE}) {
            leaves(call + " with " + n, Given::oneDead, x -> run.on(x, n), INDEX);
        }
        for (int n : Given.LIVING) {
            OasisBooks x = Given.oneDead();
            due(call + " with " + n + " refused", outcome(() -> run.on(x, n)).equals(INDEX), false);
        }
    }

    /** Of this OWNER, of() of 0 to 13. */
    static void owner(OasisBooks x, int owner, int... want) {
        due("of(" + owner + ", 0 to 13)", Look.owner(x, owner), Look.text(want));
    }

    static void end() {
        System.out.println(passed + " passed, " + failed + " failed");
        if (failed != 0 || passed == 0) {
            System.exit(1);
        }
    }
}
