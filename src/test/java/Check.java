import java.util.function.IntSupplier;

/** Counts the answers of one test that are not as due, and ends it with exit code 1 if there was one. */
final class Check {
    private static final Class<IllegalArgumentException> ARGUMENT = IllegalArgumentException.class;
    private static final Class<IllegalStateException> STATE = IllegalStateException.class;

    private int asked = 0;
    private int wrong = 0;

    void due(String call, long got, long want) {
        asked++;
        if (got != want) {
            wrong++;
            System.out.println(call + " answered " + got + ", due is " + want);
        }
    }

    void due(String call, boolean got, boolean want) {
        due(call, got ? 1 : 0, want ? 1 : 0);
    }

    void refusesArgument(String call, Runnable run) {
        refuses(call, ARGUMENT, run);
    }

    void refusesState(String call, Runnable run) {
        refuses(call, STATE, run);
    }

    /** The very class is asked for: a subclass, such as an array's own exception, is a fault. */
    void refuses(String call, Class<? extends RuntimeException> want, Runnable run) {
        asked++;
        Class<?> got = null;
        try {
            run.run();
        } catch (RuntimeException e) {
            got = e.getClass();
        }
        if (got != want) {
            wrong++;
            System.out.println(call + " threw " + got + ", due is " + want);
        }
    }

    void row(String call, int[] wants, IntSupplier answer) {
        for (int i = 0; i < wants.length; i++) {
            due(call + " [" + i + "]", answer.getAsInt(), wants[i]);
        }
    }

    void end() {
        System.out.println(asked + " answers, " + wrong + " not as due");
        if (wrong != 0 || asked == 0) {
            System.exit(1);
        }
    }
}
