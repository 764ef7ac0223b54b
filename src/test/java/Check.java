import java.util.function.Supplier;

/** Counts what was as due and prints what was not. */
final class Check {
    private int passed = 0;
    private int failed = 0;

    /** Runs a call and compares its answer, or the exception that it throws. */
    void due(String call, Object want, Supplier<Object> action) {
        Object got = outcome(action);
        if (want.equals(got)) {
            passed++;
        } else {
            failed++;
            System.out.println(call + " answered " + got + ", due is " + want);
        }
    }

    /** The answer of a call, or throws.X if it throws X. */
    static Object outcome(Supplier<Object> action) {
        try {
            return action.get();
        } catch (RuntimeException e) {
            return "throws." + e.getClass().getSimpleName();
        }
    }

    int passed() {
        return passed;
    }

    /** Prints the closing line and ends with exit code 1 if anything failed. */
    void close(String name) {
        System.out.println(name + ": " + passed + " passed, " + failed + " failed");
        if (failed != 0) {
            System.exit(1);
        }
    }
}
