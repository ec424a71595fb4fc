/** Protocols, places and runs that the tests share. */
final class Setup {
    static final int END = 0;
    static final int RATE = 1;
    static final int DIFFERENCE = 2;

    private Setup() {
    }

    /** Sets pairs of a field and its value. */
    static void define(SampleAnalyser x, int test, int... fieldsAndValues) {
        for (int i = 0; i + 1 < fieldsAndValues.length; i += 2) {
            x.define(test, fieldsAndValues[i], fieldsAndValues[i + 1]);
        }
    }

    /** Adds points to a curve: pairs of x and a value. */
    static void curve(SampleAnalyser x, int test, int... points) {
        for (int i = 0; i + 1 < points.length; i += 2) {
            x.curve(test, points[i], points[i + 1]);
        }
    }

    /** A sample of 10, no reagent, a reading at age 1, no rule; the value is the absorbance. */
    static void plain(SampleAnalyser x, int test) {
        define(x, test, 0, 10, 7, 1, 8, 1, 10, 0, 11, 20000);
        curve(x, test, 0, 0, 16384, 16384);
        x.seal(test);
    }

    /** As the plain one, with one reagent at an age and the reading behind it. */
    static void withReagent(SampleAnalyser x, int test, int kind, int dose, int age) {
        define(x, test, 0, 10, 1, kind, 2, dose, 3, age, 7, age + 1, 8, age + 1, 10, 0, 11, 20000);
        curve(x, test, 0, 0, 16384, 16384);
        x.seal(test);
    }

    /** The absorbance of this light is 1024 times the number (1 .. 16). */
    static void lightOf(SampleAnalyser x, int times1024) {
        x.light(1 << (16 - times1024));
    }

    static int steps(SampleAnalyser x, int n) {
        int last = -2;
        for (int i = 0; i < n; i++) {
            last = x.step();
        }
        return last;
    }
}
