/** Counts answers that are not as due, prints them, and ends a test. */
final class Check {
    private final String promise;
    private static int wrong;
    private static int asked;

    Check(String promise) {
        this.promise = promise;
    }

    void due(String call, long got, long want) {
        asked++;
        if (got != want) {
            wrong++;
            System.out.println(promise + ": " + call + " answered " + got + ", due is " + want);
        }
    }

    void due(String call, boolean got, boolean want) {
        due(call, got ? 1 : 0, want ? 1 : 0);
    }

    /** A call that is refused: it answers NONE, with that status, and leaves all that can be asked as it is. */
    void refused(SharedSurplus x, String call, int status, java.util.function.IntSupplier asking) {
        String before = Snapshot.of(x);
        due(call, asking.getAsInt(), SharedSurplus.NONE);
        due(call + " status()", x.status(), status);
        if (!before.equals(Snapshot.of(x))) {
            due(call + " changed something", 1, 0);
        }
    }

    /** The same for a call that answers with a boolean. */
    void refusedFlag(SharedSurplus x, String call, int status, java.util.function.BooleanSupplier asking) {
        String before = Snapshot.of(x);
        due(call, asking.getAsBoolean(), false);
        due(call + " status()", x.status(), status);
        if (!before.equals(Snapshot.of(x))) {
            due(call + " changed something", 1, 0);
        }
    }

    static void end() {
        System.out.println(wrong == 0 ? asked + " answers are as due" : wrong + " of " + asked + " answers are not as due");
        if (wrong != 0) {
            System.exit(1);
        }
    }
}
