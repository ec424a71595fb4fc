/** Protocols, places and runs that the tests share. */
final class Setup {
    static final int END = 0;
    static final int RATE = 1;
    static final int DIFFERENCE = 2;

    static final int REPEAT = 1;
    static final int DILUTE = 2;

    private Setup() {
    }

    /** Sets pairs of a field and its value. */
    static void define(SampleAnalyser x, int test, int... fieldsAndValues) {
        for (int i = 0; i + 1 < fieldsAndValues.length; i += 2) {
            x.define(test, fieldsAndValues[i], fieldsAndValues[i + 1]);
        }
    }

    /** Adds points to a curve: pairs of x and a value. */
    static void curve(SampleAnalyser x, int test, int... points) {
        for (int i = 0; i + 1 < points.length; i += 2) {
            x.curve(test, points[i], points[i + 1]);
        }
    }

    /** A sample of 10, no reagent, a reading at age 1, no rule; the value is the absorbance. */
    static void plain(SampleAnalyser x, int test) {
        read(x, test, 1);
    }

    /** As the plain one, with its one reading at an age. */
    static void read(SampleAnalyser x, int test, int age) {
        define(x, test, 0, 10, 7, age, 8, age, 10, 0, 11, 20000);
        curve(x, test, 0, 0, 16384, 16384);
        x.seal(test);
    }

    /** As the plain one, with one reagent at an age and the reading behind it. */
    static void withReagent(SampleAnalyser x, int test, int kind, int dose, int age) {
        define(x, test, 1, kind, 2, dose, 3, age);
        read(x, test, age + 1);
    }

    /** As the plain one, with two reagents (kind, dose, age of each) and the reading behind them. */
    static void withReagents(SampleAnalyser x, int test, int... kindDoseAge) {
        for (int i = 0; i < kindDoseAge.length && i < 6; i++) {
            x.define(test, i + 1, kindDoseAge[i]);
        }
        read(x, test, kindDoseAge[5] + 1);
    }

    /** The absorbance of this light is 1024 times the number (1 .. 16). */
    static void lightOf(SampleAnalyser x, int times1024) {
        x.light(1 << (16 - times1024));
    }

    static int steps(SampleAnalyser x, int n) {
        int last = -2;
        for (int i = 0; i < n; i++) {
            last = x.step();
        }
        return last;
    }
}
