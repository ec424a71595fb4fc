/** Promises 13 (step) and 15 (state): formulas, curves, limits, repeats and dilutions. */
public final class ResultTest {
    private static final int MIN = Integer.MIN_VALUE;
    private static final int MAX = Integer.MAX_VALUE;
    private static final Check CHECK = new Check();

    public static void main(String[] args) {
        formulas();
        slopes();
        curves();
        roundings();
        ranges();
        limits();
        noRule();
        repeats();
        dilutions();
        dilutionTimesTheRoundedValue();
        repeatStartsInTheSameStep();
        secondRunShortOfSample();
        CHECK.end();
    }

    /** A test 0 with readings at ages 1 .. n of the lights, each told as its absorbance / 1024. */
    private static SampleAnalyser read(int formula, int[] curve, int low, int high, int... lights) {
        SampleAnalyser x = new SampleAnalyser();
        Setup.define(x, 0, 0, 20, 7, 1, 8, lights.length, 9, formula, 10, low, 11, high);
        Setup.curve(x, 0, curve);
        CHECK.due("seal", x.seal(0), true);
        x.rack(0, 1, 0, 100);
        x.order(1, 0, false);
        x.step();
        for (int light : lights) {
            Setup.lightOf(x, light);
            x.step();
        }
        x.step();
        CHECK.due("released", x.state(0, 0), 2);
        return x;
    }

    private static final int[] IDENTITY = {-1000000, -1000000, 1000000, 1000000};

    private static int valueOf(int formula, int... lights) {
        return read(formula, IDENTITY, MIN, MAX, lights).state(0, 5);
    }

    private static void formulas() {
        CHECK.due("END of one", valueOf(Setup.END, 7), 7 * 1024);
        CHECK.due("END of three", valueOf(Setup.END, 7, 9, 2), 2 * 1024);
        CHECK.due("DIFFERENCE of two", valueOf(Setup.DIFFERENCE, 3, 10), 7 * 1024);
        CHECK.due("DIFFERENCE, falling", valueOf(Setup.DIFFERENCE, 10, 1, 3), -7 * 1024);
        CHECK.due("DIFFERENCE of six", valueOf(Setup.DIFFERENCE, 1, 9, 9, 9, 9, 16), 15 * 1024);
    }

    private static void slopes() {
        CHECK.due("RATE of two", valueOf(Setup.RATE, 1, 2), 1024000);
        CHECK.due("RATE of two, falling", valueOf(Setup.RATE, 5, 2), -3 * 1024000);
        CHECK.due("RATE of six, level", valueOf(Setup.RATE, 5, 5, 5, 5, 5, 5), 0);
        CHECK.due("RATE of six, straight", valueOf(Setup.RATE, 1, 2, 3, 4, 5, 6), 1024000);
        // n = 3: (3 * (1 * 2 + 2 * 7) - 3 * (4 + 2 + 7)) / (3 * 5 - 9) = 9 / 6.
        CHECK.due("RATE of three", valueOf(Setup.RATE, 4, 2, 7), 1536000);
        // n = 6: the last one is 1 higher, so the dividend is 6 * 5 - 15 * 1 and the divisor 6 * 55 - 225.
        CHECK.due("RATE rounded, 1024000 * 15 / 105 = 146285.7", valueOf(Setup.RATE, 1, 1, 1, 1, 1, 2), 146286);
        CHECK.due("RATE rounded, falling", valueOf(Setup.RATE, 2, 2, 2, 2, 2, 1), -146286);
        // n = 4: divisor 4 * 14 - 36 = 20, dividend 4 * 1 - 6 * 1 = -2 for the second reading one higher.
        CHECK.due("RATE of four", valueOf(Setup.RATE, 1, 2, 1, 1), -102400);
    }

    private static int valueAt(int times1024, int... curve) {
        return read(Setup.END, curve, MIN, MAX, times1024).state(0, 5);
    }

    private static void curves() {
        int[] bent = {2048, 100, 4096, 200, 6144, 1000, 8192, 1001, 10240, 5000};
        CHECK.due("below the first", valueAt(1, bent), 50);
        CHECK.due("at the first", valueAt(2, bent), 100);
        CHECK.due("between the first two", valueAt(3, bent), 150);
        CHECK.due("at the second", valueAt(4, bent), 200);
        CHECK.due("between the next two", valueAt(5, bent), 600);
        CHECK.due("at the third", valueAt(6, bent), 1000);
        CHECK.due("between the third and the fourth, a half up", valueAt(7, bent), 1001);
        CHECK.due("at the fourth", valueAt(8, bent), 1001);
        CHECK.due("between the last two, a half up", valueAt(9, bent), 3001);
        CHECK.due("at the last", valueAt(10, bent), 5000);
        CHECK.due("above the last", valueAt(12, bent), 5000 + 3999);
        CHECK.due("falling", valueAt(3, 2048, 10, 4096, -10), 0);
        CHECK.due("falling, above", valueAt(6, 2048, 10, 4096, -10), -30);
        CHECK.due("no flag beyond the ends", read(Setup.END, bent, MIN, MAX, 12).state(0, 6), 0);
    }

    private static void roundings() {
        CHECK.due("0.5 of it, rising", valueAt(3, 2048, 0, 4096, 1), 1);
        CHECK.due("0.5 of it, falling", valueAt(3, 2048, 0, 4096, -1), 0);
        CHECK.due("-0.5 below, rising", valueAt(1, 2048, 0, 4096, 1), 0);
        CHECK.due("0.5 below, falling", valueAt(1, 2048, 0, 4096, -1), 1);
        CHECK.due("1.5 falling is -1", valueAt(3, 2048, 0, 4096, -3), -1);
        CHECK.due("a third", valueAt(1, 0, 0, 3072, 1), 0);
        CHECK.due("two thirds", valueAt(2, 0, 0, 3072, 1), 1);
        CHECK.due("minus a third", valueAt(1, 0, 0, 3072, -1), 0);
        CHECK.due("minus two thirds", valueAt(2, 0, 0, 3072, -1), -1);
        CHECK.due("the quotient is rounded, then y0 added", valueAt(3, 2048, -7, 4096, -6), -6);
        CHECK.due("the same, falling", valueAt(3, 2048, 7, 4096, 6), 7);
    }

    private static void ranges() {
        dueResult("just in range", read(Setup.END, new int[] {0, 0, 1, 976562}, MIN, MAX, 1), 999999488, 0);
        dueResult("just at it", read(Setup.END, new int[] {24, 0, 25, 1000000}, MIN, MAX, 1), 1000000000, 0);
        dueResult("just above", read(Setup.END, new int[] {24, -999, 25, 999002}, MIN, MAX, 1), 1000000000, 4);
        dueResult("just at it, falling", read(Setup.END, new int[] {24, 0, 25, -1000000}, MIN, MAX, 1), -1000000000, 0);
        dueResult("just below", read(Setup.END, new int[] {24, 999, 25, -999002}, MIN, MAX, 1), -1000000000, 4);
        dueResult("far above", read(Setup.END, new int[] {0, 0, 1, 1000000}, MIN, MAX, 16), 1000000000, 4);
        dueResult("far below", read(Setup.END, new int[] {0, 0, 1, -1000000}, MIN, MAX, 16), -1000000000, 4);
        dueResult("farthest", read(Setup.RATE, new int[] {-1000000, -1000000, -999999, 1000000}, MIN, MAX, 1, 16),
                1000000000, 4);
        dueResult("HIGH of what became of it", read(Setup.END, new int[] {0, 0, 1, 1000000}, MIN, 999999999, 16),
                1000000000, 2 + 4);
        dueResult("not HIGH of what became of it", read(Setup.END, new int[] {0, 0, 1, 1000000}, MIN, 1000000000, 16),
                1000000000, 4);
        dueResult("LOW of what became of it", read(Setup.END, new int[] {0, 0, 1, -1000000}, -999999999, MAX, 16),
                -1000000000, 1 + 4);
        dueResult("not LOW of what became of it", read(Setup.END, new int[] {0, 0, 1, -1000000}, -1000000000, MAX, 16),
                -1000000000, 4);
    }

    private static void dueResult(String what, SampleAnalyser x, int value, int flags) {
        CHECK.due("value, " + what, x.state(0, 5), value);
        CHECK.due("flags, " + what, x.state(0, 6), flags);
    }

    private static void limits() {
        dueResult("below", read(Setup.END, IDENTITY, 5121, 9000, 5), 5120, 1);
        dueResult("at the low one", read(Setup.END, IDENTITY, 5120, 9000, 5), 5120, 0);
        dueResult("at the high one", read(Setup.END, IDENTITY, 0, 5120, 5), 5120, 0);
        dueResult("above", read(Setup.END, IDENTITY, 0, 5119, 5), 5120, 2);
    }

    /** Test 0 with a rule, limits 2000 and 5000 and a dilution of 5. */
    private static SampleAnalyser ruled(int rule, int kind) {
        SampleAnalyser x = new SampleAnalyser();
        Setup.define(x, 0, 0, 20, 7, 1, 8, 1, 10, 2000, 11, 5000, 12, rule, 13, 5);
        Setup.curve(x, 0, 0, 0, 16384, 16384);
        x.seal(0);
        x.rack(0, 1, kind, 100);
        x.order(1, 0, false);
        return x;
    }

    private static void noRule() {
        for (int light : new int[] {1, 3, 8}) {
            SampleAnalyser x = ruled(0, 0);
            Setup.lightOf(x, light);
            CHECK.row("step()", new int[] {0, -1, -1}, x::step);
            dueResult("no rule", x, 1024 * light, light == 1 ? 1 : light == 8 ? 2 : 0);
        }
    }

    private static void repeats() {
        for (int light : new int[] {1, 8}) {
            SampleAnalyser x = ruled(1, 0);
            Setup.lightOf(x, light);
            CHECK.row("step()", new int[] {0, -1, 0}, x::step);
            CHECK.due("the sample of a repeat", x.cuvette(1, 2), 20);
            CHECK.due("nothing for the host", x.took(0), 0);
            Setup.lightOf(x, 3);
            CHECK.row("step()", new int[] {-1, -1}, x::step);
            dueResult("repeated", x, 3072, 8);
        }
        SampleAnalyser x = ruled(1, 0);
        Setup.lightOf(x, 3);
        CHECK.row("step()", new int[] {0, -1, -1}, x::step);
        dueResult("within", x, 3072, 0);
        SampleAnalyser y = ruled(1, 0);
        Setup.lightOf(y, 1);
        CHECK.row("step()", new int[] {0, -1, 0, -1, -1}, y::step);
        dueResult("low again", y, 1024, 1 + 8);
    }

    private static void dilutions() {
        SampleAnalyser x = ruled(2, 0);
        Setup.lightOf(x, 8);
        CHECK.row("step()", new int[] {0, -1, 0}, x::step);
        CHECK.due("the diluted sample", x.cuvette(1, 2), 4);
        CHECK.due("sample left", x.volume(0, 0), 76);
        CHECK.due("runs", x.state(0, 2), 2);
        Setup.lightOf(x, 2);
        CHECK.row("step()", new int[] {-1, -1}, x::step);
        dueResult("diluted", x, 5 * 2048, 2 + 8 + 16);
        SampleAnalyser y = ruled(2, 0);
        Setup.lightOf(y, 8);
        Setup.steps(y, 3);
        y.light(65535);
        Setup.steps(y, 2);
        dueResult("diluted and low", y, 5, 1 + 8 + 16);
        SampleAnalyser z = ruled(2, 0);
        Setup.lightOf(z, 1);
        CHECK.row("step()", new int[] {0, -1, -1}, z::step);
        dueResult("LOW with DILUTE", z, 1024, 1);
        SampleAnalyser control = ruled(2, 1);
        Setup.lightOf(control, 8);
        CHECK.row("step()", new int[] {0, -1, -1}, control::step);
        dueResult("a control", control, 8192, 2);
        SampleAnalyser repeated = ruled(1, 1);
        Setup.lightOf(repeated, 1);
        CHECK.row("step()", new int[] {0, -1, -1}, repeated::step);
        dueResult("a control", repeated, 1024, 1);
    }

    private static void dilutionTimesTheRoundedValue() {
        SampleAnalyser x = new SampleAnalyser();
        Setup.define(x, 0, 0, 20, 7, 1, 8, 1, 10, 0, 11, 1, 12, 2, 13, 10);
        Setup.curve(x, 0, 2048, 0, 4096, 1);
        x.seal(0);
        x.rack(0, 1, 0, 100);
        x.order(1, 0, false);
        Setup.lightOf(x, 7);
        Setup.steps(x, 3);
        CHECK.due("the diluted sample", x.cuvette(1, 2), 2);
        Setup.lightOf(x, 3);
        Setup.steps(x, 2);
        dueResult("10 times 1, not 5", x, 10, 2 + 8 + 16);

        SampleAnalyser y = new SampleAnalyser();
        Setup.define(y, 0, 0, 20, 7, 1, 8, 1, 10, 0, 11, 1, 12, 2, 13, 2);
        Setup.curve(y, 0, 0, 0, 1, 500000);
        y.seal(0);
        y.rack(0, 1, 0, 100);
        y.order(1, 0, false);
        Setup.lightOf(y, 1);
        Setup.steps(y, 5);
        dueResult("RANGE behind the dilution", y, 1000000000, 2 + 4 + 8 + 16);
    }

    private static void repeatStartsInTheSameStep() {
        SampleAnalyser x = ruled(1, 0);
        x.order(1, 0, false);
        x.order(1, 0, true);
        Setup.lightOf(x, 8);
        CHECK.row("step()", new int[] {2, 0, 2, 0, 1, -1, -1}, x::step);
        CHECK.due("no sample is left for the last one's repeat", x.state(1, 1), 1);
    }

    private static void secondRunShortOfSample() {
        SampleAnalyser x = ruled(1, 0);
        x.rack(1, 2, 0, 25);
        x.order(2, 0, true);
        Setup.lightOf(x, 8);
        CHECK.row("step()", new int[] {1, 0, -1}, x::step);
        CHECK.due("failed", x.state(1, 0), 3);
        CHECK.due("reason", x.state(1, 1), 1);
        CHECK.due("runs", x.state(1, 2), 1);
        CHECK.due("value", x.state(1, 5), 0);

        SampleAnalyser y = ruled(2, 0);
        y.rack(1, 2, 0, 24);
        y.order(2, 0, true);
        Setup.lightOf(y, 8);
        CHECK.row("step()", new int[] {1, 0, 1}, y::step);
        CHECK.due("the diluted one has enough", y.volume(0, 1), 0);
    }
}
