import java.util.function.IntSupplier;

/** Counts the answers that are not due; a test's main ends with end(). */
final class Check {
    private static int wrong;
    private static int asked;

    private Check() {
    }

    static void due(String call, long got, long want) {
        asked++;
        if (got != want) {
            tell(call, String.valueOf(got), String.valueOf(want));
        }
    }

    static void due(String call, double got, double want) {
        asked++;
        if (got != want) {
            tell(call, String.valueOf(got), String.valueOf(want));
        }
    }

    static void due(String call, String got, String want) {
        asked++;
        if (!got.equals(want)) {
            tell(call, got, want);
        }
    }

    /** The call has to throw exactly this exception, and to change nothing. */
    static void refuses(OasisBooks x, Class<? extends RuntimeException> want, String call, IntSupplier run) {
        long before = x.digest();
        due(call, outcome(run), "throws." + want.getSimpleName());
        due(call + " changes nothing", x.digest(), before);
    }

    /** The call has to answer this number below 0, and to change nothing. */
    static void denies(OasisBooks x, int want, String call, IntSupplier run) {
        long before = x.digest();
        due(call, outcome(run), String.valueOf(want));
        due(call + " changes nothing", x.digest(), before);
    }

    static String outcome(IntSupplier run) {
        try {
            return String.valueOf(run.getAsInt());
        } catch (RuntimeException e) {
            return "throws." + e.getClass().getSimpleName();
        }
    }

    private static void tell(String call, String got, String want) {
        wrong++;
        System.out.println(call + " answered " + got + ", due is " + want);
    }

    static void end() {
        System.out.println(wrong == 0 ? asked + " answers are as due" : wrong + " answers are not as due");
        if (wrong != 0) {
            System.exit(1);
        }
    }
}
