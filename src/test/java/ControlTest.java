/** Promises 18 (trend) and 19 (rules). */
public final class ControlTest {
    private static final int MIN = Integer.MIN_VALUE;
    private static final int MAX = Integer.MAX_VALUE;
    private static final Check CHECK = new Check();

    public static void main(String[] args) {
        wrongCalls();
        historyOfTen();
        samplesAreNoControls();
        historiesStay();
        threeDeviations();
        twoDeviations();
        tenOnOneSide();
        extremeMeans();
        CHECK.end();
    }

    private static void wrongCalls() {
        SampleAnalyser x = new SampleAnalyser();
        for (int wrong : new int[] {-1, 4, MIN, MAX}) {
            CHECK.refusesArgument("trend(" + wrong + ", 0)", () -> x.trend(wrong, 0));
            CHECK.refusesArgument("trend(" + wrong + ", -1)", () -> x.trend(wrong, -1));
            CHECK.refusesArgument("rules(" + wrong + ")", () -> x.rules(wrong));
        }
        for (int wrong : new int[] {-1, 0, 10, MIN, MAX}) {
            CHECK.refuses("trend(0, " + wrong + ")", IndexOutOfBoundsException.class, () -> x.trend(0, wrong));
        }
    }

    /** Controls of test 0 with these values, each / 1024. */
    private static SampleAnalyser controls(int... values) {
        SampleAnalyser x = new SampleAnalyser();
        Setup.plain(x, 0);
        x.rack(0, 1, 1, 10000);
        for (int value : values) {
            control(x, value);
        }
        return x;
    }

    private static void control(SampleAnalyser x, int value) {
        int number = x.order(1, 0, false);
        Setup.lightOf(x, value);
        Setup.steps(x, 3);
        CHECK.due("a control is released", x.state(number, 5), 1024 * value);
    }

    private static int rulesOf(int mean, int deviation, int... values) {
        SampleAnalyser x = controls(values);
        x.define(0, 14, mean);
        x.define(0, 15, deviation);
        return x.rules(0);
    }

    private static void historyOfTen() {
        SampleAnalyser x = controls(3, 5, 1);
        CHECK.due("trend(0, 0)", x.trend(0, 0), 1024);
        CHECK.due("trend(0, 1)", x.trend(0, 1), 5120);
        CHECK.due("trend(0, 2)", x.trend(0, 2), 3072);
        CHECK.refuses("trend(0, 3)", IndexOutOfBoundsException.class, () -> x.trend(0, 3));
        CHECK.refuses("trend(0, -1)", IndexOutOfBoundsException.class, () -> x.trend(0, -1));
        CHECK.refuses("trend(1, 0)", IndexOutOfBoundsException.class, () -> x.trend(1, 0));
        for (int value = 4; value < 13; value++) {
            control(x, value);
        }
        for (int i = 0; i < 9; i++) {
            CHECK.due("trend(0, " + i + ")", x.trend(0, i), 1024 * (12 - i));
        }
        CHECK.due("trend(0, 9)", x.trend(0, 9), 1024);
        CHECK.refuses("trend(0, 10)", IndexOutOfBoundsException.class, () -> x.trend(0, 10));
    }

    private static void samplesAreNoControls() {
        SampleAnalyser x = controls(3);
        x.rack(1, 2, 0, 100);
        x.order(2, 0, false);
        Setup.lightOf(x, 9);
        Setup.steps(x, 3);
        CHECK.due("released", x.state(1, 5), 9216);
        CHECK.due("trend(0, 0)", x.trend(0, 0), 3072);
        CHECK.refuses("trend(0, 1)", IndexOutOfBoundsException.class, () -> x.trend(0, 1));
    }

    private static void historiesStay() {
        SampleAnalyser x = controls(3, 8);
        x.define(0, 0, 0);
        CHECK.due("seal", x.seal(0), false);
        CHECK.due("trend(0, 0)", x.trend(0, 0), 8192);
        CHECK.due("trend(0, 1)", x.trend(0, 1), 3072);
        x.define(0, 14, 8192);
        x.define(0, 15, 1000);
        CHECK.due("rules, a new mean", x.rules(0), 0);
        x.define(0, 14, 0);
        CHECK.due("rules, another mean", x.rules(0), 3);
        x.define(0, 15, 1000000);
        CHECK.due("rules, another deviation", x.rules(0), 0);
    }

    private static void threeDeviations() {
        CHECK.due("three deviations above", rulesOf(5120, 1024, 8), 0);
        CHECK.due("more than three above", rulesOf(5119, 1024, 8), 1);
        CHECK.due("three deviations below", rulesOf(5120, 1024, 2), 0);
        CHECK.due("more than three below", rulesOf(5121, 1024, 2), 1);
        CHECK.due("not the latest", rulesOf(5120, 1024, 9, 5), 0);
        CHECK.due("the latest", rulesOf(5120, 1024, 5, 9), 1);
        CHECK.due("none", rulesOf(5120, 1), 0);
        SampleAnalyser x = controls(5);
        x.define(0, 14, 5120 - 3);
        CHECK.due("three of the first deviation", x.rules(0), 0);
        x.define(0, 14, 5120 - 4);
        CHECK.due("four of the first deviation", x.rules(0), 1);
    }

    private static void twoDeviations() {
        CHECK.due("one value alone", rulesOf(5119, 1024, 7), 0);
        CHECK.due("two of two above", rulesOf(5119, 1024, 7, 7), 2);
        CHECK.due("two of two, at two deviations", rulesOf(5120, 1024, 7, 7), 0);
        CHECK.due("two of two below", rulesOf(5121, 1024, 3, 3), 2);
        CHECK.due("two of two, at two deviations below", rulesOf(5120, 1024, 3, 3), 0);
        CHECK.due("one above, one below", rulesOf(5120, 1000, 7, 3), 0);
        CHECK.due("the first and the last of three", rulesOf(5119, 1024, 7, 5, 7), 2);
        CHECK.due("the first two of three", rulesOf(5119, 1024, 7, 7, 5), 2);
        CHECK.due("the last two of three", rulesOf(5119, 1024, 5, 7, 7), 2);
        CHECK.due("three of three", rulesOf(5119, 1024, 7, 7, 7), 2);
        CHECK.due("two below of three with one above", rulesOf(5120, 1000, 3, 7, 3), 2);
        CHECK.due("one of the latest three", rulesOf(5119, 1024, 7, 7, 5, 5), 0);
        CHECK.due("the fourth does not count", rulesOf(5119, 1024, 7, 5, 5, 7), 0);
        CHECK.due("the fourth does not count below", rulesOf(5121, 1024, 3, 5, 5, 3), 0);
        CHECK.due("with the first rule", rulesOf(5119, 500, 7, 7), 3);
    }

    private static void tenOnOneSide() {
        int[] level = {5, 5, 5, 5, 5, 5, 5, 5, 5, 5};
        CHECK.due("ten above", rulesOf(5119, 1000000, level), 4);
        CHECK.due("ten below", rulesOf(5121, 1000000, level), 4);
        CHECK.due("ten at it", rulesOf(5120, 1000000, level), 0);
        CHECK.due("nine above", rulesOf(5119, 1000000, 5, 5, 5, 5, 5, 5, 5, 5, 5), 0);
        CHECK.due("one of ten below", rulesOf(5119, 1000000, 5, 5, 5, 5, 4, 5, 5, 5, 5, 5), 0);
        CHECK.due("the latest at it", rulesOf(5120, 1000000, 6, 6, 6, 6, 6, 6, 6, 6, 6, 5), 0);
        CHECK.due("ten behind one below", rulesOf(5119, 1000000, 1, 5, 5, 5, 5, 5, 5, 5, 5, 5, 5), 4);
        CHECK.due("all three rules", rulesOf(0, 1, level), 7);
    }

    private static void extremeMeans() {
        CHECK.due("the greatest mean", rulesOf(MAX, 1000000, 5, 5), 3);
        CHECK.due("the least mean", rulesOf(MIN, 1000000, 5, 5), 3);
    }
}
