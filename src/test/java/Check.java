/** Counts the answers that are not the ones that are due, and ends with exit code 1 if there were some. */
final class Check {
    /** A call that should throw. */
    interface Call {
        long make();
    }

    private static final int MOST_TOLD = 50;

    private int made;
    private int wrong;

    void due(String what, long got, long want) {
        due(what, Long.toString(got), Long.toString(want));
    }

    void due(String what, boolean got, boolean want) {
        due(what, Boolean.toString(got), Boolean.toString(want));
    }

    void due(String what, String got, String want) {
        made++;
        if (!got.equals(want)) {
            wrong++;
            if (wrong <= MOST_TOLD) {
                System.out.println(what + " answered " + got + ", due is " + want);
            }
        }
    }

    void throwsArgument(String what, Call call) {
        due(what, outcome(call), "throws IllegalArgumentException");
    }

    void throwsState(String what, Call call) {
        due(what, outcome(call), "throws IllegalStateException");
    }

    /** The answer of a call, or what it throws. */
    static String outcome(Call call) {
        try {
            return Long.toString(call.make());
        } catch (RuntimeException e) {
            return "throws " + e.getClass().getSimpleName();
        }
    }

    boolean isGood() {
        return wrong == 0;
    }

    void end() {
        System.out.println(made + " answers looked at, " + wrong + " are not as due");
        if (wrong != 0) {
            System.exit(1);
        }
    }
}
