/** Promises 2 (define), 3 (curve) and 4 (seal). */
public final class ProtocolTest {
    private static final int MIN = Integer.MIN_VALUE;
    private static final int MAX = Integer.MAX_VALUE;
    private static final int[][] BOUNDS = {
        {0, 500}, {-1, 5}, {0, 2000}, {0, 12}, {-1, 5}, {0, 2000}, {0, 12}, {0, 12}, {0, 12}, {0, 2},
        {MIN, MAX}, {MIN, MAX}, {0, 2}, {2, 10}, {MIN, MAX}, {1, 1000000}};

    private static final Check CHECK = new Check();

    public static void main(String[] args) {
        boundsOfFields();
        noSuchTestOrField();
        defineUnseals();
        defineWhileOrdered();
        pointsOfCurves();
        refusedPoints();
        curveUnseals();
        firstValuesOfFields();
        sealing();
        sealingOfCurves();
        sealingAgain();
        CHECK.end();
    }

    private static void boundsOfFields() {
        SampleAnalyser x = new SampleAnalyser();
        for (int f = 0; f < BOUNDS.length; f++) {
            int field = f;
            x.define(0, field, BOUNDS[field][0]);
            x.define(0, field, BOUNDS[field][1]);
            if (BOUNDS[field][0] != MIN) {
                for (int wrong : new int[] {BOUNDS[field][0] - 1, BOUNDS[field][1] + 1, MIN, MAX}) {
                    CHECK.refusesArgument("define(0, " + field + ", " + wrong + ")", () -> x.define(0, field, wrong));
                }
            }
        }
    }

    private static void noSuchTestOrField() {
        SampleAnalyser x = new SampleAnalyser();
        for (int wrong : new int[] {-1, 4, MIN, MAX}) {
            CHECK.refusesArgument("define(" + wrong + ", 0, 1)", () -> x.define(wrong, 0, 1));
            CHECK.refusesArgument("curve(" + wrong + ", 0, 1)", () -> x.curve(wrong, 0, 1));
            CHECK.refusesArgument("seal(" + wrong + ")", () -> x.seal(wrong));
        }
        for (int wrong : new int[] {-1, 16, MIN, MAX}) {
            CHECK.refusesArgument("define(0, " + wrong + ", 1)", () -> x.define(0, wrong, 1));
        }
    }

    private static void defineUnseals() {
        SampleAnalyser x = new SampleAnalyser();
        Setup.plain(x, 3);
        CHECK.due("order of a sealed test", x.order(1, 3, false), 0);
        SampleAnalyser y = new SampleAnalyser();
        Setup.plain(y, 3);
        y.define(3, 0, 10);
        CHECK.refusesState("order behind define", () -> y.order(1, 3, false));
        CHECK.due("seal(3)", y.seal(3), true);
        CHECK.refusesArgument("define(3, 0, 501)", () -> y.define(3, 0, 501));
        CHECK.due("order behind a refused define", y.order(1, 3, false), 0);
    }

    private static void defineWhileOrdered() {
        SampleAnalyser x = new SampleAnalyser();
        Setup.plain(x, 0);
        Setup.plain(x, 1);
        x.rack(0, 7, 0, 10);
        x.order(7, 0, false);
        CHECK.refusesState("define, waiting", () -> x.define(0, 0, 10));
        CHECK.refusesState("curve, waiting", () -> x.curve(0, 20000, 20000));
        CHECK.refusesArgument("define, waiting and wrong", () -> x.define(0, 0, -1));
        CHECK.refusesArgument("curve, waiting and wrong", () -> x.curve(0, 1000001, 0));
        x.define(1, 0, 20);
        CHECK.due("step()", x.step(), 0);
        CHECK.refusesState("define, running", () -> x.define(0, 0, 10));
        CHECK.refusesState("curve, running", () -> x.curve(0, 20000, 20000));
        CHECK.due("seal, running", x.seal(0), true);
        Setup.steps(x, 2);
        CHECK.due("released", x.state(0, 0), 2);
        x.define(0, 0, 10);
        x.seal(0);
        x.order(7, 0, false);
        x.step();
        CHECK.due("failed", x.state(1, 0), 3);
        x.define(0, 0, 10);
    }

    private static void pointsOfCurves() {
        SampleAnalyser x = new SampleAnalyser();
        CHECK.due("point 1", x.curve(2, -1000000, 1000000), 1);
        CHECK.due("point 2", x.curve(2, -5, -1000000), 2);
        CHECK.due("point 3", x.curve(2, 0, 4), 3);
        CHECK.due("below the one before", x.curve(2, -1, 4), 1);
        CHECK.due("behind that", x.curve(2, 1000000, 4), 2);
        CHECK.due("another test's", x.curve(1, 7, 7), 1);
        CHECK.due("and below", x.curve(1, 6, 7), 1);
    }

    private static void refusedPoints() {
        SampleAnalyser x = new SampleAnalyser();
        for (int wrong : new int[] {-1000001, 1000001, MIN, MAX}) {
            CHECK.refusesArgument("curve(0, " + wrong + ", 0)", () -> x.curve(0, wrong, 0));
            CHECK.refusesArgument("curve(0, 0, " + wrong + ")", () -> x.curve(0, 0, wrong));
        }
        CHECK.due("point 1", x.curve(0, 0, 0), 1);
        CHECK.refusesState("the same x", () -> x.curve(0, 0, 1));
        Setup.curve(x, 0, 1, 1, 2, 2, 3, 3);
        CHECK.due("point 5", x.curve(0, 4, 4), 5);
        CHECK.refusesState("point 6", () -> x.curve(0, 5, 5));
        CHECK.refusesState("point 6, below", () -> x.curve(0, -1, 5));
        CHECK.refusesState("point 6, the same x", () -> x.curve(0, 4, 5));
        CHECK.refusesArgument("point 6, wrong", () -> x.curve(0, 1000001, 5));
    }

    private static void curveUnseals() {
        SampleAnalyser x = new SampleAnalyser();
        Setup.plain(x, 0);
        CHECK.refusesState("the same x", () -> x.curve(0, 16384, 3));
        CHECK.due("still sealed", x.order(1, 0, false), 0);
        SampleAnalyser y = new SampleAnalyser();
        Setup.plain(y, 0);
        CHECK.due("curve", y.curve(0, 20000, 20000), 3);
        CHECK.refusesState("order behind curve", () -> y.order(1, 0, false));
    }

    /** Only what a new test lacks is set, so all else must be as the document says at first. */
    private static void firstValuesOfFields() {
        SampleAnalyser x = new SampleAnalyser();
        Setup.define(x, 0, 0, 2, 7, 1, 8, 1, 12, 2);
        Setup.curve(x, 0, 0, -1, 16384, 1);
        CHECK.due("dilution 2 divides 2", x.seal(0), true);
        x.define(0, 0, 3);
        CHECK.due("dilution 2 does not divide 3", x.seal(0), false);
        x.define(0, 12, 0);
        CHECK.due("no dilution", x.seal(0), true);
        x.rack(0, 1, 1, 100);
        x.order(1, 0, false);
        Setup.lightOf(x, 1);
        Setup.steps(x, 3);
        CHECK.due("limits 0", x.state(0, 6), 1);
        CHECK.due("value", x.state(0, 5), -1);
        CHECK.due("deviation 1, mean 0", x.rules(0), 0);
    }

    private static void sealing() {
        seals("as it is", true);
        seals("no sample", false, 0, 0);
        seals("sample 1", true, 0, 1);
        seals("first volume 0", false, 2, 0);
        seals("volumes 1", true, 2, 1, 5, 1);
        seals("first age 0", false, 3, 0);
        seals("first reagent none, second one given", false, 1, -1);
        seals("no reagents", true, 1, -1, 4, -1);
        seals("no reagents, with volumes and ages", true, 1, -1, 4, -1, 2, 0, 3, 12, 5, 0, 6, 0);
        seals("second none, with volume 0 and age 0", true, 4, -1, 5, 0, 6, 0);
        seals("second volume 0", false, 5, 0);
        seals("second age 0", false, 6, 0);
        seals("second age as the first one's", false, 6, 2);
        seals("second age before the first one's", false, 6, 1);
        seals("second age at the first reading", false, 6, 5);
        seals("first age at the first reading", false, 3, 5, 4, -1);
        seals("first age before the first reading", true, 3, 4, 4, -1);
        seals("reading 0", false, 1, -1, 4, -1, 7, 0, 8, 3);
        seals("first reading behind the last", false, 7, 8);
        seals("one reading, END", true, 7, 7, 9, 0);
        seals("one reading, RATE", false, 7, 7, 9, 1);
        seals("one reading, DIFFERENCE", false, 7, 7, 9, 2);
        seals("two readings, RATE", true, 7, 6, 9, 1);
        seals("two readings, DIFFERENCE", true, 7, 6, 9, 2);
        seals("six ages", true, 8, 10);
        seals("seven ages", false, 8, 11);
        seals("last age 12", true, 7, 12, 8, 12);
        seals("low as high", true, 10, 5, 11, 5);
        seals("low above high", false, 10, 6, 11, 5);
        seals("low the least, high the most", true, 10, MIN, 11, MAX);
        seals("low the most, high the least", false, 10, MAX, 11, MIN);
        seals("DILUTE with rest", false, 12, 2, 13, 7);
        seals("DILUTE without rest", true, 12, 2, 13, 10);
        seals("REPEAT with rest", true, 12, 1, 13, 7);
    }

    private static void seals(String what, boolean want, int... changes) {
        SampleAnalyser x = new SampleAnalyser();
        Setup.define(x, 0, 0, 20, 1, 0, 2, 100, 3, 2, 4, 1, 5, 50, 6, 3, 7, 5, 8, 7, 10, -5, 11, 5);
        Setup.curve(x, 0, 0, 0, 10, 10);
        Setup.define(x, 0, changes);
        CHECK.due("seal, " + what, x.seal(0), want);
        if (want) {
            CHECK.due("order, " + what, x.order(1, 0, false), 0);
        } else {
            CHECK.refusesState("order, " + what, () -> x.order(1, 0, false));
        }
    }

    private static void sealingOfCurves() {
        sealsCurve("none", false);
        sealsCurve("one point", false, 0, 0);
        sealsCurve("rising", true, 0, 0, 1, 1);
        sealsCurve("falling", true, 0, 0, 1, -1);
        sealsCurve("level", false, 0, 5, 1, 5);
        sealsCurve("rising, level", false, 0, 0, 1, 1, 2, 1);
        sealsCurve("rising, falling", false, 0, 0, 1, 1, 2, 0);
        sealsCurve("falling, rising", false, 0, 0, 1, -1, 2, 0);
        sealsCurve("five rising", true, 0, 0, 1, 1, 2, 2, 3, 3, 4, 4);
        sealsCurve("five falling", true, 0, 0, 1, -1, 2, -2, 3, -3, 4, -4);
        sealsCurve("the last of five falling", false, 0, 0, 1, 1, 2, 2, 3, 3, 4, 2);
        sealsCurve("one point alone behind three", false, 5, 0, 6, 1, 7, 2, 0, 0);
        sealsCurve("wide", true, -1000000, 1000000, 1000000, -1000000);
    }

    private static void sealsCurve(String what, boolean want, int... points) {
        SampleAnalyser x = new SampleAnalyser();
        Setup.define(x, 1, 0, 10, 7, 1, 8, 1);
        Setup.curve(x, 1, points);
        CHECK.due("seal, curve " + what, x.seal(1), want);
    }

    private static void sealingAgain() {
        SampleAnalyser x = new SampleAnalyser();
        Setup.plain(x, 0);
        CHECK.due("seal a second time", x.seal(0), true);
        x.define(0, 0, 0);
        CHECK.due("seal of what is not right", x.seal(0), false);
        CHECK.refusesState("order of what is not right", () -> x.order(1, 0, false));
        CHECK.refusesState("order of another test", () -> x.order(1, 1, false));
    }
}
