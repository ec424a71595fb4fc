/** The edges of promises 18 (trend) and 19 (rules), and of the HISTORY and the CONTROL RULES. */
public final class EdgesOfControlsTest {
    private static final int MIN = Check.MIN;
    private static final int MAX = Check.MAX;
    private static final int THREE = 1;
    private static final int TWO = 2;
    private static final int TEN = 4;
    private static final Class<IndexOutOfBoundsException> INDEX = IndexOutOfBoundsException.class;
    private static final Check CHECK = new Check();

    public static void main(String[] args) {
        trend();
        history();
        argumentsOfRules();
        threeDeviations();
        twoDeviations();
        tenOnOneSide();
        meansAndDeviations();
        CHECK.end();
    }

    /** Controls of test 0 with these values, each a multiple of 1024 and told as that. */
    private static SampleAnalyser controls(int... values) {
        SampleAnalyser x = new SampleAnalyser();
        Setup.plain(x, 0);
        x.rack(0, 1, 1, 10000);
        for (int value : values) {
            control(x, value);
        }
        return x;
    }

    private static void control(SampleAnalyser x, int value) {
        x.order(1, 0, false);
        Setup.lightOf(x, value);
        Setup.steps(x, 3);
    }

    private static int rulesOf(int mean, int deviation, int... values) {
        SampleAnalyser x = controls(values);
        x.define(0, 14, mean);
        x.define(0, 15, deviation);
        return x.rules(0);
    }

    private static void dueHistory(SampleAnalyser x, int... latestFirst) {
        for (int i = 0; i < latestFirst.length; i++) {
            CHECK.due("trend(0, " + i + ")", x.trend(0, i), 1024 * latestFirst[i]);
        }
        CHECK.refuses("trend(0, " + latestFirst.length + ")", INDEX, () -> x.trend(0, latestFirst.length));
    }

    // ---- promise 18 ----

    private static void trend() {
        CHECK.edge("trend: no such test", () -> {
            SampleAnalyser x = controls(3);
            for (int wrong : new int[] {-1, 4, MIN, MAX}) {
                CHECK.refusesArgument("trend(" + wrong + ", 0)", () -> x.trend(wrong, 0));
                CHECK.refusesArgument("trend(" + wrong + ", -1)", () -> x.trend(wrong, -1));
                CHECK.refusesArgument("trend(" + wrong + ", 10)", () -> x.trend(wrong, 10));
            }
        });
        CHECK.edge("trend: IndexOutOfBoundsException if there is none such, of an empty history", () -> {
            SampleAnalyser x = new SampleAnalyser();
            for (int test = 0; test < 4; test++) {
                for (int wrong : new int[] {-1, 0, 1, 9, 10, MIN, MAX}) {
                    int t = test;
                    CHECK.refuses("trend(" + t + ", " + wrong + ")", INDEX, () -> x.trend(t, wrong));
                }
            }
        });
        CHECK.edge("trend: IndexOutOfBoundsException if there is none such, of one, nine and ten", () -> {
            for (int size : new int[] {1, 9, 10}) {
                SampleAnalyser x = controls(rising(size));
                CHECK.takes("trend(0, 0)", () -> x.trend(0, 0));
                CHECK.takes("the last of " + size, () -> x.trend(0, size - 1));
                for (int wrong : new int[] {-1, size, MIN, MAX}) {
                    CHECK.refuses("trend(0, " + wrong + ") of " + size, INDEX, () -> x.trend(0, wrong));
                }
            }
        });
        CHECK.edge("value i of a test's history, the latest is 0", () -> dueHistory(controls(3, 5, 1), 1, 5, 3));
    }

    private static int[] rising(int size) {
        int[] values = new int[size];
        for (int i = 0; i < size; i++) {
            values[i] = i + 1;
        }
        return values;
    }

    private static void history() {
        CHECK.edge("HISTORY (the last ten): the tenth", () -> {
            dueHistory(controls(rising(10)), 10, 9, 8, 7, 6, 5, 4, 3, 2, 1);
        });
        CHECK.edge("HISTORY (the last ten): the eleventh drives the first one out", () -> {
            dueHistory(controls(rising(11)), 11, 10, 9, 8, 7, 6, 5, 4, 3, 2);
        });
        CHECK.edge("HISTORY (the last ten): of twenty-three, twice round and more", () -> {
            SampleAnalyser x = controls(rising(13));
            for (int value : rising(10)) {
                control(x, value);
            }
            dueHistory(x, 10, 9, 8, 7, 6, 5, 4, 3, 2, 1);
        });
        CHECK.edge("a run with a control sample: other samples do not come into it", () -> {
            SampleAnalyser x = controls(3);
            x.rack(1, 2, 0, 100);
            x.order(2, 0, false);
            Setup.steps(x, 3);
            CHECK.due("released", x.state(1, 0), 2);
            dueHistory(x, 3);
        });
        CHECK.edge("the test's HISTORY: each test has its own", () -> {
            SampleAnalyser x = controls(3);
            for (int test = 1; test < 4; test++) {
                int t = test;
                Setup.plain(x, t);
                CHECK.refuses("trend(" + t + ", 0)", INDEX, () -> x.trend(t, 0));
                x.order(1, t, false);
                Setup.lightOf(x, 4 + t);
                Setup.steps(x, 3);
                CHECK.due("trend(" + t + ", 0)", x.trend(t, 0), 1024 * (4 + t));
            }
            dueHistory(x, 3);
        });
        CHECK.edge("define() and seal() leave a HISTORY", () -> {
            SampleAnalyser x = controls(3, 8);
            x.define(0, 0, 0);
            dueHistory(x, 8, 3);
            CHECK.due("seal(0)", x.seal(0), false);
            dueHistory(x, 8, 3);
            x.define(0, 0, 10);
            x.seal(0);
            dueHistory(x, 8, 3);
            control(x, 5);
            dueHistory(x, 5, 8, 3);
        });
        CHECK.edge("a new curve leaves a HISTORY, too", () -> {
            SampleAnalyser x = controls(3);
            x.curve(0, -5, 0);
            dueHistory(x, 3);
        });
        CHECK.edge("... the value comes into the history when it is judged, not before", () -> {
            SampleAnalyser x = controls();
            x.order(1, 0, false);
            Setup.steps(x, 2);
            CHECK.refuses("trend(0, 0)", INDEX, () -> x.trend(0, 0));
            x.step();
            CHECK.due("trend(0, 0)", x.trend(0, 0), 1);
        });
        CHECK.edge("a control that fails has no value for the history", () -> {
            SampleAnalyser x = controls();
            x.order(1, 0, false);
            x.spoil(0);
            x.step();
            x.spoil(0);
            x.step();
            CHECK.due("failed", x.state(0, 0), 3);
            CHECK.refuses("trend(0, 0)", INDEX, () -> x.trend(0, 0));
        });
    }

    // ---- promise 19 ----

    private static void argumentsOfRules() {
        CHECK.edge("rules: no such test", () -> {
            SampleAnalyser x = new SampleAnalyser();
            for (int wrong : new int[] {-1, 4, MIN, MAX}) {
                CHECK.refusesArgument("rules(" + wrong + ")", () -> x.rules(wrong));
            }
            CHECK.due("rules(0)", x.rules(0), 0);
            CHECK.due("rules(3)", x.rules(3), 0);
        });
        CHECK.edge("rules: of an empty history", () -> CHECK.due("rules(0)", rulesOf(MAX, 1), 0));
    }

    private static void threeDeviations() {
        CHECK.edge("bit 0: the latest is more than 3 deviations from the mean, above", () -> {
            CHECK.due("3 deviations", rulesOf(5120, 1024, 8), 0);
            CHECK.due("one more", rulesOf(5119, 1024, 8), THREE);
            CHECK.due("one less", rulesOf(5121, 1024, 8), 0);
        });
        CHECK.edge("bit 0: ... below", () -> {
            CHECK.due("3 deviations", rulesOf(5120, 1024, 2), 0);
            CHECK.due("one more", rulesOf(5121, 1024, 2), THREE);
            CHECK.due("one less", rulesOf(5119, 1024, 2), 0);
        });
        CHECK.edge("bit 0: the latest, not another", () -> {
            CHECK.due("the one before", rulesOf(5120, 1024, 9, 5), 0);
            CHECK.due("the latest", rulesOf(5120, 1024, 5, 9), THREE);
            CHECK.due("the latest of ten", rulesOf(5120, 1024, 5, 5, 5, 5, 5, 5, 5, 5, 5, 9), THREE);
            CHECK.due("the latest of eleven", rulesOf(5120, 1024, 9, 5, 5, 5, 5, 5, 5, 5, 5, 5, 5), 0);
        });
    }

    private static void twoDeviations() {
        CHECK.edge("bit 1: two are more than 2 deviations above it", () -> {
            CHECK.due("2 deviations", rulesOf(5120, 1024, 7, 7), 0);
            CHECK.due("one more", rulesOf(5119, 1024, 7, 7), TWO);
            CHECK.due("one of the two at 2 deviations", rulesOf(5120, 1024, 8, 7), 0);
            CHECK.due("the other of the two", rulesOf(5120, 1024, 7, 8), 0);
        });
        CHECK.edge("bit 1: ... or two of them below", () -> {
            CHECK.due("2 deviations", rulesOf(5120, 1024, 3, 3), 0);
            CHECK.due("one more", rulesOf(5121, 1024, 3, 3), TWO);
            CHECK.due("one of the two at 2 deviations", rulesOf(5120, 1024, 2, 3), 0);
        });
        CHECK.edge("bit 1: one above and one below are not two", () -> {
            CHECK.due("of two", rulesOf(5120, 1000, 7, 3), 0);
            CHECK.due("of three", rulesOf(5120, 1000, 3, 5, 7), 0);
            CHECK.due("two below and one above", rulesOf(5120, 1000, 3, 7, 3), TWO);
            CHECK.due("two above and one below", rulesOf(5120, 1000, 7, 3, 7), TWO);
        });
        CHECK.edge("bit 1: of the latest three, whichever two, or all", () -> {
            CHECK.due("the first two", rulesOf(5119, 1024, 7, 7, 5), TWO);
            CHECK.due("the first and the last", rulesOf(5119, 1024, 7, 5, 7), TWO);
            CHECK.due("the last two", rulesOf(5119, 1024, 5, 7, 7), TWO);
            CHECK.due("all", rulesOf(5119, 1024, 7, 7, 7), TWO);
        });
        CHECK.edge("bit 1: of the latest three, not of four", () -> {
            CHECK.due("the first and the last of four, above", rulesOf(5119, 1024, 7, 5, 5, 7), 0);
            CHECK.due("the first and the last of four, below", rulesOf(5121, 1024, 3, 5, 5, 3), 0);
            CHECK.due("the second and the last of four", rulesOf(5119, 1024, 5, 7, 5, 7), TWO);
            CHECK.due("of ten", rulesOf(5119, 1024, 7, 7, 7, 7, 7, 7, 7, 4, 5, 7), 0);
        });
        CHECK.edge("bit 1: (or fewer, if there are)", () -> {
            CHECK.due("one", rulesOf(5119, 1024, 7), 0);
            CHECK.due("two", rulesOf(5119, 1024, 7, 7), TWO);
        });
    }

    private static void tenOnOneSide() {
        int[] level = {5, 5, 5, 5, 5, 5, 5, 5, 5, 5};
        CHECK.edge("bit 2: all of ten lie above it", () -> {
            CHECK.due("by one", rulesOf(5119, 1000000, level), TEN);
            CHECK.due("at it", rulesOf(5120, 1000000, level), 0);
            CHECK.due("but the oldest", rulesOf(5120, 1000000, 5, 6, 6, 6, 6, 6, 6, 6, 6, 6), 0);
            CHECK.due("but the latest", rulesOf(5120, 1000000, 6, 6, 6, 6, 6, 6, 6, 6, 6, 5), 0);
        });
        CHECK.edge("bit 2: ... or all below", () -> {
            CHECK.due("by one", rulesOf(5121, 1000000, level), TEN);
            CHECK.due("but the oldest", rulesOf(5120, 1000000, 5, 4, 4, 4, 4, 4, 4, 4, 4, 4), 0);
            CHECK.due("but the latest", rulesOf(5120, 1000000, 4, 4, 4, 4, 4, 4, 4, 4, 4, 5), 0);
            CHECK.due("one above, nine below", rulesOf(5120, 1000000, 4, 4, 4, 4, 6, 4, 4, 4, 4, 4), 0);
        });
        CHECK.edge("bit 2: of the last ten, not of those before", () -> {
            CHECK.due("ten above behind one below", rulesOf(5119, 1000000, 1, 5, 5, 5, 5, 5, 5, 5, 5, 5, 5), TEN);
            CHECK.due("nine above behind one below", rulesOf(5119, 1000000, 1, 5, 5, 5, 5, 5, 5, 5, 5, 5), 0);
        });
        CHECK.edge("rules of two or of ten values are not broken by fewer", () -> {
            CHECK.due("one", rulesOf(5119, 1024, 7), 0);
            CHECK.due("nine above", rulesOf(5119, 1000000, 5, 5, 5, 5, 5, 5, 5, 5, 5), 0);
            CHECK.due("nine below", rulesOf(5121, 1000000, 5, 5, 5, 5, 5, 5, 5, 5, 5), 0);
        });
        CHECK.edge("the control rules that a test's history breaks, as bits", () -> {
            CHECK.due("0 and 1", rulesOf(5119, 500, 7, 7), THREE + TWO);
            CHECK.due("1 and 2", rulesOf(3072, 1024, 4, 4, 4, 4, 4, 4, 4, 4, 6, 6), TWO + TEN);
            CHECK.due("0 and 2", rulesOf(3072, 1000, 4, 4, 4, 4, 4, 4, 4, 4, 4, 9), THREE + TEN);
            CHECK.due("all", rulesOf(0, 1, level), THREE + TWO + TEN);
            CHECK.due("all, below", rulesOf(16384, 1, level), THREE + TWO + TEN);
        });
    }

    private static void meansAndDeviations() {
        CHECK.edge("a new mean or deviation counts for all of it", () -> {
            SampleAnalyser x = controls(8, 8);
            x.define(0, 14, 8192);
            CHECK.due("the mean 8192", x.rules(0), 0);
            x.define(0, 14, 8189);
            CHECK.due("the mean 8189, deviation 1", x.rules(0), TWO);
            x.define(0, 14, 8188);
            CHECK.due("the mean 8188, deviation 1", x.rules(0), THREE + TWO);
            x.define(0, 15, 2);
            CHECK.due("the mean 8188, deviation 2", x.rules(0), 0);
        });
        CHECK.edge("the mean is any number: the greatest and the least", () -> {
            CHECK.due("the greatest", rulesOf(MAX, 1000000, 5, 5), THREE + TWO);
            CHECK.due("the least", rulesOf(MIN, 1000000, 5, 5), THREE + TWO);
        });
        CHECK.edge("the deviation (1 .. 1000000): the greatest", () -> {
            CHECK.due("3 deviations", rulesOf(5120 - 3000000, 1000000, 5), 0);
            CHECK.due("one more", rulesOf(5119 - 3000000, 1000000, 5), THREE);
            CHECK.due("2 deviations", rulesOf(5120 - 2000000, 1000000, 5, 5), 0);
            CHECK.due("one more", rulesOf(5119 - 2000000, 1000000, 5, 5), TWO);
        });
        CHECK.edge("rules of values at the ends of the RANGE", () -> {
            SampleAnalyser x = new SampleAnalyser();
            Setup.define(x, 0, 0, 10, 7, 1, 8, 1, 14, MIN, 15, 1000000);
            Setup.curve(x, 0, 0, 0, 1, 1000000);
            x.seal(0);
            x.rack(0, 1, 1, 100);
            control(x, 9);
            control(x, 9);
            CHECK.due("trend(0, 0)", x.trend(0, 0), 1000000000);
            CHECK.due("rules(0), the least mean", x.rules(0), THREE + TWO);
            x.define(0, 14, 1000000000 - 3000000);
            CHECK.due("rules(0), 3 deviations", x.rules(0), TWO);
            x.define(0, 14, 1000000000 - 2000000);
            CHECK.due("rules(0), 2 deviations", x.rules(0), 0);
        });
        CHECK.edge("each test has a mean and a deviation of its own", () -> {
            SampleAnalyser x = controls(8);
            x.define(1, 14, 8192);
            CHECK.due("rules(0)", x.rules(0), THREE);
            CHECK.due("rules(1)", x.rules(1), 0);
            x.define(0, 14, 8192);
            CHECK.due("rules(0)", x.rules(0), 0);
        });
    }
}
