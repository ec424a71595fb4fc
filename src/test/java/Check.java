import java.util.function.IntSupplier;

/** Counts the answers of one test that are not as due, and ends it with exit code 1 if there was one. */
final class Check {
    static final int MIN = Integer.MIN_VALUE;
    static final int MAX = Integer.MAX_VALUE;
    static final Class<IllegalArgumentException> ARGUMENT = IllegalArgumentException.class;
    static final Class<IllegalStateException> STATE = IllegalStateException.class;

    private int asked = 0;
    private int wrong = 0;
    private int edges = 0;
    private String sentence = "";

    /**
     * A test of its own for one sentence of the document (or the part of it that names the edge). It is told with
     * whatever is wrong in it, and an exception that is not due does not keep the other sentences from their test.
     */
    void edge(String itsSentence, Runnable test) {
        edges++;
        sentence = "'" + itsSentence + "': ";
        int askedBefore = asked;
        try {
            test.run();
        } catch (RuntimeException e) {
            fault("threw " + e + " at " + e.getStackTrace()[0]);
        }
        if (asked == askedBefore) {
            fault("asked nothing");
        }
        sentence = "";
    }

    void due(String call, long got, long want) {
        asked++;
        if (got != want) {
            fault(call + " answered " + got + ", due is " + want);
        }
    }

    void due(String call, boolean got, boolean want) {
        due(call, got ? 1 : 0, want ? 1 : 0);
    }

    /** The call is within what is said: it throws nothing. */
    void takes(String call, Runnable run) {
        refuses(call, null, run);
    }

    void refusesArgument(String call, Runnable run) {
        refuses(call, ARGUMENT, run);
    }

    void refusesState(String call, Runnable run) {
        refuses(call, STATE, run);
    }

    /** The very class is asked for: a subclass, such as an array's own exception, is a fault. */
    void refuses(String call, Class<? extends RuntimeException> want, Runnable run) {
        asked++;
        Class<?> got = null;
        try {
            run.run();
        } catch (RuntimeException e) {
            got = e.getClass();
        }
        if (got != want) {
            fault(call + " threw " + got + ", due is " + want);
        }
    }

    void row(String call, int[] wants, IntSupplier answer) {
        for (int i = 0; i < wants.length; i++) {
            due(call + " [" + i + "]", answer.getAsInt(), wants[i]);
        }
    }

    private void fault(String what) {
        wrong++;
        System.out.println(sentence + what);
    }

    void end() {
        String ofEdges = edges == 0 ? "" : edges + " sentences, ";
        System.out.println(ofEdges + asked + " answers, " + wrong + " not as due");
        if (wrong != 0 || asked == 0) {
            System.exit(1);
        }
    }
}
