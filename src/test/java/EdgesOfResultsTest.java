import java.math.BigInteger;

/** The edges of promise 11 (light), and of THE LIGHT, RESULTS and what is JUDGED under 'Terms'. */
public final class EdgesOfResultsTest {
    private static final int MIN = Check.MIN;
    private static final int MAX = Check.MAX;
    private static final int LOW = 1;
    private static final int HIGH = 2;
    private static final int RANGE = 4;
    private static final int SECOND = 8;
    private static final int DILUTED = 16;
    private static final int WAITING = 0;
    private static final int RUNNING = 1;
    private static final int RELEASED = 2;
    private static final int NO_RULE = 0;
    private static final int[] IDENTITY = {-1000000, -1000000, 1000000, 1000000};
    private static final Check CHECK = new Check();

    public static void main(String[] args) {
        light();
        absorbances();
        formulas();
        rates();
        curves();
        roundings();
        ranges();
        limits();
        rules();
        secondRuns();
        controls();
        CHECK.end();
    }

    // ---- promise 11 ----

    private static void light() {
        CHECK.edge("counts, 1 .. 65535", () -> {
            SampleAnalyser x = new SampleAnalyser();
            for (int wrong : new int[] {-1, 0, 65536, MIN, MAX}) {
                CHECK.refusesArgument("light(" + wrong + ")", () -> x.light(wrong));
            }
            CHECK.takes("light(1)", () -> x.light(1));
            CHECK.takes("light(65535)", () -> x.light(65535));
        });
        CHECK.edge("(65535 at first)", () -> {
            SampleAnalyser x = new SampleAnalyser();
            Setup.plain(x, 0);
            x.rack(0, 1, 0, 10);
            x.order(1, 0, false);
            Setup.steps(x, 3);
            CHECK.due("the absorbance", x.state(0, 5), 1);
        });
        CHECK.edge("the light from now on: till the next one", () -> {
            SampleAnalyser x = new SampleAnalyser();
            Setup.plain(x, 0);
            x.rack(0, 1, 0, 100);
            for (int n = 0; n < 3; n++) {
                x.order(1, 0, false);
            }
            Setup.lightOf(x, 4);
            Setup.steps(x, 3);
            Setup.lightOf(x, 6);
            Setup.steps(x, 2);
            CHECK.due("read in step 2", x.state(0, 5), 4096);
            CHECK.due("read in step 3", x.state(1, 5), 4096);
            CHECK.due("read in step 4", x.state(2, 5), 6144);
        });
        CHECK.edge("light: refused counts leave it as it is", () -> {
            SampleAnalyser x = new SampleAnalyser();
            Setup.plain(x, 0);
            x.rack(0, 1, 0, 10);
            x.order(1, 0, false);
            Setup.lightOf(x, 4);
            CHECK.refusesArgument("light(0)", () -> x.light(0));
            CHECK.refusesArgument("light(65536)", () -> x.light(65536));
            Setup.steps(x, 3);
            CHECK.due("the absorbance", x.state(0, 5), 4096);
        });
    }

    /** The values of plain runs, each read in one of the lights: a run starts in each step and is read in the next. */
    private static int[] absorbancesOf(int first, int count) {
        SampleAnalyser x = new SampleAnalyser();
        Setup.plain(x, 0);
        x.rack(0, 1, 0, 10 * count);
        for (int n = 0; n < count; n++) {
            x.order(1, 0, false);
        }
        x.step();
        for (int n = 0; n < count; n++) {
            x.light(first + n);
            x.step();
        }
        x.step();
        int[] values = new int[count];
        for (int n = 0; n < count; n++) {
            values[n] = x.state(n, 5);
        }
        return values;
    }

    private static int absorbanceTold(int counts) {
        int e = BigInteger.valueOf(counts).bitLength() - 1;
        BigInteger m = BigInteger.valueOf(counts).shiftLeft(15 - e);
        StringBuilder r = new StringBuilder();
        for (int i = 0; i < 10; i++) {
            m = m.multiply(m).shiftRight(15);
            boolean one = m.bitLength() > 16;
            r.append(one ? '1' : '0');
            m = one ? m.shiftRight(1) : m;
        }
        return 16384 - (1024 * e + Integer.parseInt(r.toString(), 2));
    }

    private static void absorbances() {
        CHECK.edge("the ABSORBANCE of 1 count and of 65535", () -> {
            CHECK.due("of 1", absorbancesOf(1, 1)[0], 16384);
            CHECK.due("of 65535", absorbancesOf(65535, 1)[0], 1);
        });
        CHECK.edge("e the number of the highest bit of c", () -> {
            for (int bit = 0; bit < 16; bit++) {
                CHECK.due("of 2^" + bit, absorbancesOf(1 << bit, 1)[0], 16384 - 1024 * bit);
            }
            for (int bit = 2; bit <= 16; bit++) {
                int just = (1 << bit) - 1;
                CHECK.due("of " + just, absorbancesOf(just, 1)[0], absorbanceTold(just));
            }
        });
        CHECK.edge("a bit of r is 1 if that is 65536 or more", () -> {
            // 46340 * 46340 / 32768 is 65533, 46341 * 46341 / 32768 is 65536; the others were worked out by hand, too.
            int[][] known = {
                {46340, 513}, {46341, 512}, {3, 14762}, {27, 11515}, {255, 8198}, {1000, 6180}, {12345, 2467},
                {34756, 938}, {40804, 701}, {48623, 442}, {65534, 1}};
            for (int[] pair : known) {
                CHECK.due("of " + pair[0], absorbancesOf(pair[0], 1)[0], pair[1]);
            }
        });
        CHECK.edge("the ABSORBANCE of c counts: of all there are", () -> {
            for (int first = 1; first <= 65535; first += 40) {
                int count = Math.min(40, 65536 - first);
                int[] values = absorbancesOf(first, count);
                for (int n = 0; n < count; n++) {
                    CHECK.due("of " + (first + n), values[n], absorbanceTold(first + n));
                }
            }
        });
    }

    // ---- formulas ----

    /** Test 0, read at ages 1 .. n in these lights, with a sample of 20, a dilution of 10 and a rule. */
    private static SampleAnalyser prepared(int formula, int[] curve, int low, int high, int rule, int readings) {
        SampleAnalyser x = new SampleAnalyser();
        Setup.define(x, 0, 0, 20, 7, 1, 8, readings, 9, formula, 10, low, 11, high, 12, rule, 13, 10);
        Setup.curve(x, 0, curve);
        CHECK.due("seal(0)", x.seal(0), true);
        return x;
    }

    private static void run(SampleAnalyser x, int... counts) {
        for (int c : counts) {
            x.light(c);
            x.step();
        }
        x.step();
    }

    private static SampleAnalyser ordered(SampleAnalyser x, int kind) {
        x.rack(0, 1, kind, 100);
        x.order(1, 0, false);
        x.step();
        return x;
    }

    private static int valueOf(int formula, int... counts) {
        SampleAnalyser x = ordered(prepared(formula, IDENTITY, MIN, MAX, NO_RULE, counts.length), 0);
        run(x, counts);
        CHECK.due("released", x.state(0, 0), RELEASED);
        return x.state(0, 5);
    }

    private static void formulas() {
        CHECK.edge("END gives the last", () -> {
            CHECK.due("of one", valueOf(Setup.END, 46340), 513);
            CHECK.due("of two", valueOf(Setup.END, 46340, 46341), 512);
            CHECK.due("of six", valueOf(Setup.END, 1, 1, 1, 1, 1, 46340), 513);
        });
        CHECK.edge("DIFFERENCE the last less the first", () -> {
            CHECK.due("of two", valueOf(Setup.DIFFERENCE, 46341, 46340), 1);
            CHECK.due("of two, falling", valueOf(Setup.DIFFERENCE, 46340, 46341), -1);
            CHECK.due("of two, level", valueOf(Setup.DIFFERENCE, 46340, 46340), 0);
            CHECK.due("of six", valueOf(Setup.DIFFERENCE, 46341, 1, 1, 1, 1, 46340), 1);
            CHECK.due("the greatest", valueOf(Setup.DIFFERENCE, 65535, 1), 16383);
            CHECK.due("the least", valueOf(Setup.DIFFERENCE, 1, 65535), -16383);
        });
    }

    private static void rates() {
        CHECK.edge("RATE 1000 times the slope of the least squares, of two", () -> {
            CHECK.due("rising by one", valueOf(Setup.RATE, 46341, 46340), 1000);
            CHECK.due("falling by one", valueOf(Setup.RATE, 46340, 46341), -1000);
            CHECK.due("level", valueOf(Setup.RATE, 46340, 46340), 0);
        });
        CHECK.edge("RATE of three, four and five", () -> {
            CHECK.due("n = 3", valueOf(Setup.RATE, 46341, 46341, 46340), 500);
            CHECK.due("n = 3, the middle one does not matter", valueOf(Setup.RATE, 46341, 1, 46341), 0);
            CHECK.due("n = 4, the third one higher", valueOf(Setup.RATE, 46341, 46341, 46340, 46341), 100);
            CHECK.due("n = 4, the last one higher", valueOf(Setup.RATE, 46341, 46341, 46341, 46340), 300);
            CHECK.due("n = 5, the fourth one higher", valueOf(Setup.RATE, 46341, 46341, 46341, 46340, 46341), 100);
            CHECK.due("n = 5, the last one higher", valueOf(Setup.RATE, 46341, 46341, 46341, 46341, 46340), 200);
        });
        CHECK.edge("of RATE 1000 times the numerator is divided once, and rounded: of six", () -> {
            int low = 46341;
            int high = 46340;
            // The numerator is 3 times the odd number of the place, the denominator 105.
            CHECK.due("1000 * 3 / 105 = 28 4/7", valueOf(Setup.RATE, low, low, low, high, low, low), 29);
            CHECK.due("-28 4/7", valueOf(Setup.RATE, low, low, high, low, low, low), -29);
            CHECK.due("1000 * 18 / 105 = 171 3/7", valueOf(Setup.RATE, low, low, low, high, low, high), 171);
            CHECK.due("-171 3/7", valueOf(Setup.RATE, high, low, high, low, low, low), -171);
            CHECK.due("1000 * 15 / 105 = 142 6/7", valueOf(Setup.RATE, low, low, low, low, low, high), 143);
            CHECK.due("-142 6/7", valueOf(Setup.RATE, high, low, low, low, low, low), -143);
        });
    }

    // ---- curves ----

    private static int valueAt(int counts, int... curve) {
        SampleAnalyser x = ordered(prepared(Setup.END, curve, MIN, MAX, NO_RULE, 1), 0);
        run(x, counts);
        CHECK.due("no flag", x.state(0, 6), 0);
        return x.state(0, 5);
    }

    private static final int X1024 = 32768;
    private static final int X2048 = 16384;
    private static final int X3072 = 8192;
    private static final int X4096 = 4096;
    private static final int X5120 = 2048;
    private static final int X6144 = 1024;
    private static final int X7168 = 512;
    private static final int[] BENT = {2048, 100, 3072, 300, 4096, 1000, 5120, 1100, 6144, 5100};

    private static void curves() {
        CHECK.edge("at a point it is that", () -> {
            CHECK.due("the first", valueAt(X2048, BENT), 100);
            CHECK.due("the second", valueAt(X3072, BENT), 300);
            CHECK.due("the third", valueAt(X4096, BENT), 1000);
            CHECK.due("the fourth", valueAt(X5120, BENT), 1100);
            CHECK.due("the last", valueAt(X6144, BENT), 5100);
        });
        CHECK.edge("the first two below the first", () -> {
            CHECK.due("far", valueAt(X1024, BENT), -100);
            CHECK.due("by one", valueAt(X1024, 1025, 10, 1026, 20, 1027, 900), 0);
            CHECK.due("of two points", valueAt(X1024, 1025, 10, 1026, 20), 0);
        });
        CHECK.edge("the last two above the last", () -> {
            CHECK.due("far", valueAt(X7168, BENT), 9100);
            CHECK.due("by one", valueAt(X1024, 1021, -900, 1022, 10, 1023, 20), 30);
            CHECK.due("of two points", valueAt(X1024, 1022, 10, 1023, 20), 30);
        });
        CHECK.edge("the curve's two points between which x lies", () -> {
            CHECK.due("behind the first by one", valueAt(X1024, 1023, 10, 1025, 20, 1026, 900), 15);
            CHECK.due("ahead of the second by one", valueAt(X1024, 1022, 10, 1025, 40, 1026, 900), 30);
            CHECK.due("behind the second by one", valueAt(X1024, 1022, 0, 1023, 10, 1033, 110), 20);
            CHECK.due("between the third and the fourth", valueAt(X1024, 0, 0, 1, 1, 1014, 2, 1034, 42), 22);
            CHECK.due("between the last two of five", valueAt(X1024, 0, 0, 1, 1, 2, 2, 1014, 3, 1034, 23), 13);
        });
        CHECK.edge("falling values: between, below and above", () -> {
            CHECK.due("between", valueAt(X1024, 1014, 50, 1034, 10), 30);
            CHECK.due("below", valueAt(X1024, 1034, 50, 1054, 10), 70);
            CHECK.due("above", valueAt(X1024, 994, 50, 1014, 10), -10);
        });
        CHECK.edge("beyond the curve's ends there is no flag", () -> {
            CHECK.due("below", valueAt(X1024, 1025, 10, 1026, 20), 0);
            CHECK.due("above", valueAt(X1024, 1022, 10, 1023, 20), 30);
        });
    }

    private static void roundings() {
        CHECK.edge("ROUNDED to the nearest whole number: less and more than a half", () -> {
            CHECK.due("1/3", valueAt(X1024, 1023, 0, 1026, 1), 0);
            CHECK.due("2/3", valueAt(X1024, 1022, 0, 1025, 1), 1);
            CHECK.due("-1/3", valueAt(X1024, 1023, 0, 1026, -1), 0);
            CHECK.due("-2/3", valueAt(X1024, 1022, 0, 1025, -1), -1);
            CHECK.due("499/999", valueAt(X1024, 525, 0, 1524, 1), 0);
            CHECK.due("500/999", valueAt(X1024, 524, 0, 1523, 1), 1);
            CHECK.due("-499/999", valueAt(X1024, 525, 0, 1524, -1), 0);
            CHECK.due("-500/999", valueAt(X1024, 524, 0, 1523, -1), -1);
        });
        CHECK.edge("halves up", () -> {
            CHECK.due("1/2", valueAt(X1024, 1023, 0, 1025, 1), 1);
            CHECK.due("3/2", valueAt(X1024, 1023, 0, 1025, 3), 2);
            CHECK.due("-1/2", valueAt(X1024, 1023, 0, 1025, -1), 0);
            CHECK.due("-3/2", valueAt(X1024, 1023, 0, 1025, -3), -1);
            CHECK.due("-1/2 below the first", valueAt(X1024, 1025, 0, 1027, 1), 0);
            CHECK.due("1/2 below the first", valueAt(X1024, 1025, 0, 1027, -1), 1);
        });
        CHECK.edge("of a curve the quotient is rounded, then y0 added", () -> {
            CHECK.due("-7 + 1/2", valueAt(X1024, 1023, -7, 1025, -6), -6);
            CHECK.due("7 - 1/2", valueAt(X1024, 1023, 7, 1025, 6), 7);
            CHECK.due("1 - 3/2", valueAt(X1024, 1023, 1, 1025, -2), 0);
        });
        CHECK.edge("the dilution multiplies that", () -> {
            SampleAnalyser x = ordered(prepared(Setup.END, new int[] {1023, 0, 1025, 1}, 0, 0, Setup.DILUTE, 1), 0);
            run(x, X1024);
            CHECK.due("the second run", x.state(0, 2), 2);
            run(x, X1024);
            CHECK.due("10 times 1, not 10 / 2", x.state(0, 5), 10);
        });
    }

    // ---- RANGE ----

    private static void dueResult(SampleAnalyser x, int value, int flags) {
        CHECK.due("released", x.state(0, 0), RELEASED);
        CHECK.due("value", x.state(0, 5), value);
        CHECK.due("flags", x.state(0, 6), flags);
    }

    private static SampleAnalyser resultAt1024(int low, int high, int... curve) {
        SampleAnalyser x = ordered(prepared(Setup.END, curve, low, high, NO_RULE, 1), 0);
        run(x, X1024);
        return x;
    }

    private static SampleAnalyser dilutedAt1024(int... curve) {
        SampleAnalyser x = ordered(prepared(Setup.END, curve, MIN, MIN, Setup.DILUTE, 1), 0);
        run(x, X1024);
        run(x, X1024);
        return x;
    }

    private static void ranges() {
        CHECK.edge("what is beyond 1000000000 becomes that, flagged RANGE", () -> {
            dueResult(resultAt1024(MIN, MAX, 24, -1, 25, 999999), 999999999, 0);
            dueResult(resultAt1024(MIN, MAX, 24, 0, 25, 1000000), 1000000000, 0);
            dueResult(resultAt1024(MIN, MAX, 24, 1, 25, 1000000), 999999001, 0);
            dueResult(resultAt1024(MIN, MAX, 24, -999, 25, 999002), 1000000000, RANGE);
        });
        CHECK.edge("... either way", () -> {
            dueResult(resultAt1024(MIN, MAX, 24, 1, 25, -999999), -999999999, 0);
            dueResult(resultAt1024(MIN, MAX, 24, 0, 25, -1000000), -1000000000, 0);
            dueResult(resultAt1024(MIN, MAX, 24, 999, 25, -999002), -1000000000, RANGE);
        });
        CHECK.edge("... beyond what an int holds", () -> {
            dueResult(resultAt1024(MIN, MAX, 0, -1000000, 1, 1000000), 1000000000, RANGE);
            dueResult(resultAt1024(MIN, MAX, 0, 1000000, 1, -1000000), -1000000000, RANGE);
            SampleAnalyser x = ordered(prepared(Setup.RATE, new int[] {-1000000, -1000000, -999999, 1000000}, MIN, MAX,
                    NO_RULE, 2), 0);
            run(x, 65535, 1);
            dueResult(x, 1000000000, RANGE);
        });
        CHECK.edge("RANGE is asked behind the dilution", () -> {
            dueResult(dilutedAt1024(924, 0, 925, 1000000), 1000000000, HIGH + SECOND + DILUTED);
            dueResult(dilutedAt1024(924, 1, 925, 1000000), 999999010, HIGH + SECOND + DILUTED);
            dueResult(dilutedAt1024(924, -99, 925, 999902), 1000000000, HIGH + RANGE + SECOND + DILUTED);
            dueResult(dilutedAt1024(924, 0, 925, -1000000), -1000000000, HIGH + SECOND + DILUTED);
            dueResult(dilutedAt1024(924, 99, 925, -999902), -1000000000, HIGH + RANGE + SECOND + DILUTED);
        });
        CHECK.edge("LOW and HIGH of what became of it", () -> {
            int[] far = {0, 0, 1, 1000000};
            dueResult(resultAt1024(MIN, 1000000000, far), 1000000000, RANGE);
            dueResult(resultAt1024(MIN, 999999999, far), 1000000000, HIGH + RANGE);
            dueResult(resultAt1024(1000000001, MAX, far), 1000000000, LOW + RANGE);
            int[] below = {0, 0, 1, -1000000};
            dueResult(resultAt1024(-1000000000, MAX, below), -1000000000, RANGE);
            dueResult(resultAt1024(-999999999, MAX, below), -1000000000, LOW + RANGE);
            dueResult(resultAt1024(MIN, -1000000001, below), -1000000000, HIGH + RANGE);
        });
    }

    // ---- limits and rules ----

    private static void limits() {
        CHECK.edge("bit 0 LOW: below the low limit", () -> {
            dueResult(resultAt1024(1023, MAX, IDENTITY), 1024, 0);
            dueResult(resultAt1024(1024, MAX, IDENTITY), 1024, 0);
            dueResult(resultAt1024(1025, MAX, IDENTITY), 1024, LOW);
            dueResult(resultAt1024(MAX, MAX, IDENTITY), 1024, LOW);
        });
        CHECK.edge("bit 1 HIGH: above the high limit", () -> {
            dueResult(resultAt1024(MIN, 1025, IDENTITY), 1024, 0);
            dueResult(resultAt1024(MIN, 1024, IDENTITY), 1024, 0);
            dueResult(resultAt1024(MIN, 1023, IDENTITY), 1024, HIGH);
            dueResult(resultAt1024(MIN, MIN, IDENTITY), 1024, HIGH);
        });
        CHECK.edge("the low limit as the high one", () -> dueResult(resultAt1024(1024, 1024, IDENTITY), 1024, 0));
    }

    /** The state of an order behind its first run, in which it had the value 1024. */
    private static int behindFirstRun(int rule, int kind, int low, int high) {
        SampleAnalyser x = prepared(Setup.END, IDENTITY, low, high, rule, 1);
        x.rack(0, 1, kind, 20);
        x.order(1, 0, false);
        x.light(X1024);
        Setup.steps(x, 2);
        // The urgent one of a slot that is not empty keeps the first one from starting again, so that it can be seen.
        x.rack(1, 2, 0, 20);
        x.order(2, 0, true);
        CHECK.due("step()", x.step(), 1);
        return x.state(0, 0);
    }

    private static void rules() {
        CHECK.edge("if it is above the high limit with DILUTE, the order waits again", () -> {
            CHECK.due("one above", behindFirstRun(Setup.DILUTE, 0, 0, 1023), WAITING);
            CHECK.due("at it", behindFirstRun(Setup.DILUTE, 0, 0, 1024), RELEASED);
        });
        CHECK.edge("with DILUTE what is below the low limit is RELEASED", () -> {
            CHECK.due("one below", behindFirstRun(Setup.DILUTE, 0, 1025, 2000), RELEASED);
        });
        CHECK.edge("... or beyond one (HIGH, LOW) with REPEAT", () -> {
            CHECK.due("one above", behindFirstRun(Setup.REPEAT, 0, 0, 1023), WAITING);
            CHECK.due("at the high one", behindFirstRun(Setup.REPEAT, 0, 0, 1024), RELEASED);
            CHECK.due("at the low one", behindFirstRun(Setup.REPEAT, 0, 1024, 2000), RELEASED);
            CHECK.due("one below", behindFirstRun(Setup.REPEAT, 0, 1025, 2000), WAITING);
        });
        CHECK.edge("the RULE for what is beyond them: 0 none", () -> {
            CHECK.due("one above", behindFirstRun(NO_RULE, 0, 0, 1023), RELEASED);
            CHECK.due("one below", behindFirstRun(NO_RULE, 0, 1025, 2000), RELEASED);
        });
        CHECK.edge("a run with a control sample is always RELEASED", () -> {
            CHECK.due("DILUTE, above", behindFirstRun(Setup.DILUTE, 1, 0, 1023), RELEASED);
            CHECK.due("REPEAT, above", behindFirstRun(Setup.REPEAT, 1, 0, 1023), RELEASED);
            CHECK.due("REPEAT, below", behindFirstRun(Setup.REPEAT, 1, 1025, 2000), RELEASED);
        });
        CHECK.edge("RANGE alone asks for no second run", () -> {
            int[] far = {0, 0, 1, 1000000};
            SampleAnalyser x = ordered(prepared(Setup.END, far, 0, 1000000000, Setup.REPEAT, 1), 0);
            run(x, X1024);
            dueResult(x, 1000000000, RANGE);
        });
    }

    private static SampleAnalyser secondRun(int rule) {
        SampleAnalyser x = ordered(prepared(Setup.END, IDENTITY, 2000, 3000, rule, 1), 0);
        run(x, X4096);
        CHECK.due("it runs again", x.state(0, 0), RUNNING);
        CHECK.due("its runs", x.state(0, 2), 2);
        return x;
    }

    private static void secondRuns() {
        CHECK.edge("... and it was the order's first run: a second one is RELEASED, be it beyond", () -> {
            SampleAnalyser high = secondRun(Setup.REPEAT);
            run(high, X4096);
            dueResult(high, 4096, HIGH + SECOND);
            SampleAnalyser low = secondRun(Setup.REPEAT);
            run(low, X1024);
            dueResult(low, 1024, LOW + SECOND);
            SampleAnalyser diluted = secondRun(Setup.DILUTE);
            run(diluted, X1024);
            dueResult(diluted, 10240, HIGH + SECOND + DILUTED);
        });
        CHECK.edge("bit 3 it was the second run, 4 diluted: within the limits", () -> {
            SampleAnalyser repeated = secondRun(Setup.REPEAT);
            run(repeated, X2048);
            dueResult(repeated, 2048, SECOND);
            SampleAnalyser diluted = secondRun(Setup.DILUTE);
            run(diluted, 56000);
            dueResult(diluted, 10 * absorbanceTold(56000), SECOND + DILUTED);
            SampleAnalyser low = secondRun(Setup.DILUTE);
            run(low, 65535);
            dueResult(low, 10, LOW + SECOND + DILUTED);
        });
        CHECK.edge("its next run is diluted with DILUTE: a sample of volume / dilution", () -> {
            SampleAnalyser diluted = secondRun(Setup.DILUTE);
            CHECK.due("cuvette(1, 2)", diluted.cuvette(1, 2), 2);
            CHECK.due("volume(0, 0)", diluted.volume(0, 0), 78);
            SampleAnalyser repeated = secondRun(Setup.REPEAT);
            CHECK.due("cuvette(1, 2)", repeated.cuvette(1, 2), 20);
            CHECK.due("volume(0, 0)", repeated.volume(0, 0), 60);
        });
        CHECK.edge("diluted with DILUTE: reagents are given as ever", () -> {
            SampleAnalyser x = new SampleAnalyser();
            Setup.withReagent(x, 0, 0, 30, 1);
            Setup.define(x, 0, 11, 5000, 12, Setup.DILUTE, 13, 2);
            x.seal(0);
            x.rack(0, 1, 0, 100);
            x.reagent(0, 0, 60, 99);
            x.order(1, 0, false);
            Setup.lightOf(x, 9);
            CHECK.row("step()", new int[] {0, -1, -1, 0, -1}, x::step);
            CHECK.due("cuvette(1, 2)", x.cuvette(1, 2), 35);
            CHECK.due("volume(1, 0)", x.volume(1, 0), 0);
        });
        CHECK.edge("DILUTION (2 .. 10): a diluted run's value times the dilution", () -> {
            for (int dilution = 2; dilution <= 10; dilution++) {
                SampleAnalyser x = prepared(Setup.END, IDENTITY, 0, 3000, NO_RULE, 1);
                Setup.define(x, 0, 0, 5 * dilution, 12, Setup.DILUTE, 13, dilution);
                CHECK.due("seal(0)", x.seal(0), true);
                ordered(x, 0);
                run(x, X4096);
                CHECK.due("cuvette(1, 2)", x.cuvette(1, 2), 5);
                run(x, X1024);
                CHECK.due("value", x.state(0, 5), 1024 * dilution);
            }
        });
        CHECK.edge("each order has first and second runs of its own", () -> {
            SampleAnalyser x = secondRun(Setup.DILUTE);
            x.order(1, 0, false);
            CHECK.due("step()", x.step(), 1);
            CHECK.due("its runs", x.state(1, 2), 1);
            CHECK.due("cuvette(2, 2)", x.cuvette(2, 2), 20);
        });
    }

    private static void controls() {
        CHECK.edge("LOW and HIGH of all runs (controls, rule 0, second ones)", () -> {
            for (int rule : new int[] {NO_RULE, Setup.REPEAT, Setup.DILUTE}) {
                SampleAnalyser low = ordered(prepared(Setup.END, IDENTITY, 2000, 3000, rule, 1), 1);
                run(low, X1024);
                dueResult(low, 1024, LOW);
                SampleAnalyser high = ordered(prepared(Setup.END, IDENTITY, 2000, 3000, rule, 1), 1);
                run(high, X4096);
                dueResult(high, 4096, HIGH);
            }
        });
        CHECK.edge("the value comes into the test's HISTORY, as it became by RANGE", () -> {
            SampleAnalyser x = ordered(prepared(Setup.END, new int[] {0, 0, 1, -1000000}, 0, 0, NO_RULE, 1), 1);
            run(x, X1024);
            dueResult(x, -1000000000, LOW + RANGE);
            CHECK.due("trend(0, 0)", x.trend(0, 0), -1000000000);
        });
    }
}
