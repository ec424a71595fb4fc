/** Promises 20 (host) and 21 (took). */
public final class HostTest {
    private static final int MIN = Integer.MIN_VALUE;
    private static final int MAX = Integer.MAX_VALUE;
    private static final Check CHECK = new Check();

    public static void main(String[] args) {
        nothingWaits();
        inTheOrderOfRelease();
        controlsWaitToo();
        failedOnesDoNot();
        allForty();
        CHECK.end();
    }

    private static void nothingWaits() {
        SampleAnalyser x = new SampleAnalyser();
        for (int wrong : new int[] {-1, 0, 1, 40, MIN, MAX}) {
            CHECK.refuses("host(" + wrong + ")", IndexOutOfBoundsException.class, () -> x.host(wrong));
        }
        for (int wrong : new int[] {-1, 1, MIN, MAX}) {
            CHECK.refusesArgument("took(" + wrong + ")", () -> x.took(wrong));
        }
        CHECK.due("took(0)", x.took(0), 0);
    }

    private static void inTheOrderOfRelease() {
        SampleAnalyser x = new SampleAnalyser();
        Setup.plain(x, 0);
        x.rack(0, 1, 0, 1000);
        boolean[] urgent = {false, true, false, true};
        for (boolean u : urgent) {
            x.order(1, 0, u);
        }
        Setup.steps(x, 6);
        int[] wants = {1, 3, 0, 2};
        for (int i = 0; i < wants.length; i++) {
            CHECK.due("host(" + i + ")", x.host(i), wants[i]);
        }
        CHECK.refuses("host(4)", IndexOutOfBoundsException.class, () -> x.host(4));
        CHECK.refuses("host(-1)", IndexOutOfBoundsException.class, () -> x.host(-1));
        CHECK.refusesArgument("took(5)", () -> x.took(5));
        CHECK.refusesArgument("took(-1)", () -> x.took(-1));
        CHECK.due("took(0)", x.took(0), 4);
        CHECK.due("took(1)", x.took(1), 3);
        CHECK.due("host(0)", x.host(0), 3);
        CHECK.due("host(2)", x.host(2), 2);
        CHECK.refuses("host(3)", IndexOutOfBoundsException.class, () -> x.host(3));
        x.order(1, 0, false);
        Setup.steps(x, 3);
        CHECK.due("host(3) of a new one", x.host(3), 4);
        CHECK.due("took(3)", x.took(3), 1);
        CHECK.due("host(0)", x.host(0), 4);
        CHECK.due("took(1)", x.took(1), 0);
        CHECK.refuses("host(0)", IndexOutOfBoundsException.class, () -> x.host(0));
        CHECK.due("it is still released", x.state(4, 0), 2);
    }

    private static void controlsWaitToo() {
        SampleAnalyser x = new SampleAnalyser();
        Setup.plain(x, 0);
        x.rack(0, 1, 1, 1000);
        x.order(1, 0, false);
        Setup.steps(x, 2);
        CHECK.due("running", x.took(0), 0);
        x.step();
        CHECK.due("released", x.took(0), 1);
        CHECK.due("host(0)", x.host(0), 0);
    }

    private static void failedOnesDoNot() {
        SampleAnalyser x = new SampleAnalyser();
        Setup.plain(x, 0);
        x.rack(0, 1, 0, 9);
        x.order(1, 0, false);
        x.step();
        CHECK.due("failed", x.state(0, 0), 3);
        CHECK.due("took(0)", x.took(0), 0);
    }

    private static void allForty() {
        SampleAnalyser x = new SampleAnalyser();
        Setup.plain(x, 0);
        x.rack(0, 1, 0, 1000);
        for (int n = 0; n < 40; n++) {
            x.order(1, 0, false);
        }
        for (int n = 0; n < 40; n++) {
            CHECK.due("step()", x.step(), n);
        }
        Setup.steps(x, 2);
        CHECK.due("host(39)", x.host(39), 39);
        CHECK.due("took(40)", x.took(40), 0);
    }
}
