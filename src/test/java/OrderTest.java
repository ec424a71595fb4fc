/** Promises 9 (order) and 15 (state), and which order starts. */
public final class OrderTest {
    private static final int MIN = Integer.MIN_VALUE;
    private static final int MAX = Integer.MAX_VALUE;
    private static final Check CHECK = new Check();

    public static void main(String[] args) {
        numbers();
        wrongOrders();
        statesOfAnOrder();
        urgentFirst();
        sampleShort();
        reagentShort();
        failuresAheadOfCuvettes();
        onlyUpToTheOneThatStarts();
        CHECK.end();
    }

    private static void numbers() {
        SampleAnalyser x = new SampleAnalyser();
        Setup.plain(x, 0);
        for (int n = 0; n < 40; n++) {
            CHECK.due("order " + n, x.order(n % 2 == 0 ? 1 : 999999, 0, n % 3 == 0), n);
        }
        CHECK.refusesState("order 40", () -> x.order(1, 0, false));
        CHECK.refusesArgument("order 40, wrong", () -> x.order(0, 0, false));
        CHECK.due("state(39, 0)", x.state(39, 0), 0);
        CHECK.refusesArgument("state(40, 0)", () -> x.state(40, 0));
    }

    private static void wrongOrders() {
        SampleAnalyser x = new SampleAnalyser();
        Setup.plain(x, 0);
        for (int wrong : new int[] {-1, 0, 1000000, MIN, MAX}) {
            CHECK.refusesArgument("order of code " + wrong, () -> x.order(wrong, 0, false));
        }
        for (int wrong : new int[] {-1, 4, MIN, MAX}) {
            CHECK.refusesArgument("order of test " + wrong, () -> x.order(1, wrong, false));
        }
        CHECK.refusesState("order of a test that is not sealed", () -> x.order(1, 1, false));
        CHECK.refusesArgument("the same with a wrong code", () -> x.order(0, 1, false));
        CHECK.refusesArgument("state(0, 0)", () -> x.state(0, 0));
        CHECK.due("the first order", x.order(1, 0, true), 0);
        for (int wrong : new int[] {-1, 1, MIN, MAX}) {
            CHECK.refusesArgument("state(" + wrong + ", 0)", () -> x.state(wrong, 0));
        }
        for (int wrong : new int[] {-1, 7, MIN, MAX}) {
            CHECK.refusesArgument("state(0, " + wrong + ")", () -> x.state(0, wrong));
        }
    }

    private static void dueState(String when, SampleAnalyser x, int order, int... wants) {
        for (int what = 0; what < wants.length; what++) {
            CHECK.due("state(" + order + ", " + what + ") " + when, x.state(order, what), wants[what]);
        }
    }

    private static void statesOfAnOrder() {
        SampleAnalyser x = new SampleAnalyser();
        Setup.plain(x, 0);
        x.define(0, 11, 5000);
        x.define(0, 12, 1);
        x.seal(0);
        x.order(3, 0, false);
        dueState("without a rack", x, 0, 0, 0, 0, -1, -1, 0, 0);
        CHECK.due("step() without a rack", x.step(), -1);
        x.rack(0, 3, 0, 100);
        dueState("with a rack", x, 0, 0, 0, 0, -1, -1, 0, 0);
        CHECK.due("step()", x.step(), 0);
        dueState("started", x, 0, 1, 0, 1, 0, 0, 0, 0);
        Setup.lightOf(x, 9);
        x.step();
        dueState("age 1", x, 0, 1, 0, 1, 0, 1, 0, 0);
        CHECK.due("step() with the repeat", x.step(), 0);
        dueState("repeated", x, 0, 1, 0, 2, 1, 0, 0, 0);
        Setup.steps(x, 2);
        dueState("released", x, 0, 2, 0, 2, -1, -1, 9216, 2 + 8);
        x.took(1);
        dueState("taken by the host", x, 0, 2, 0, 2, -1, -1, 9216, 2 + 8);
        x.order(3, 0, false);
        x.step();
        dueState("another", x, 1, 1, 0, 1, 0, 0, 0, 0);
    }

    private static void urgentFirst() {
        SampleAnalyser x = new SampleAnalyser();
        Setup.plain(x, 0);
        x.rack(0, 1, 0, 1000);
        x.order(1, 0, false);
        x.order(2, 0, true);
        x.order(1, 0, false);
        x.order(1, 0, true);
        x.order(1, 0, true);
        CHECK.row("step()", new int[] {3, 4, 0, 2, -1}, x::step);
        x.rack(1, 2, 0, 10);
        x.order(1, 0, true);
        CHECK.row("step() with the rack", new int[] {1, 5, -1}, x::step);
    }

    private static void sampleShort() {
        SampleAnalyser x = new SampleAnalyser();
        Setup.plain(x, 0);
        x.rack(0, 1, 0, 20);
        x.rack(1, 2, 0, 9);
        x.order(1, 0, false);
        x.order(2, 0, true);
        x.order(1, 0, false);
        x.order(1, 0, false);
        CHECK.due("step()", x.step(), 0);
        dueState("of 9", x, 1, 3, 1, 0, -1, -1, 0, 0);
        CHECK.due("volume(0, 0)", x.volume(0, 0), 10);
        CHECK.due("step() of the last 10", x.step(), 2);
        CHECK.due("volume(0, 0)", x.volume(0, 0), 0);
        CHECK.due("step() of nothing", x.step(), -1);
        dueState("of 0", x, 3, 3, 1, 0, -1, -1, 0, 0);
        CHECK.due("idle() with one that failed", x.idle(), 1);
    }

    private static void reagentShort() {
        SampleAnalyser x = new SampleAnalyser();
        Setup.withReagent(x, 0, 2, 40, 1);
        x.rack(0, 1, 0, 100);
        x.order(1, 0, false);
        x.order(9, 0, false);
        CHECK.due("step() without a position", x.step(), -1);
        dueState("without a position", x, 0, 3, 2, 0, -1, -1, 0, 0);
        dueState("without a rack", x, 1, 0, 0, 0, -1, -1, 0, 0);
        x.reagent(0, 1, 1000, 99);
        x.reagent(1, 2, 39, 99);
        x.reagent(2, 2, 1000, 0);
        x.order(1, 0, false);
        CHECK.due("step() of another kind, too little, expired", x.step(), -1);
        dueState("of another kind, too little, expired", x, 2, 3, 2, 0, -1, -1, 0, 0);
        x.reagent(1, 2, 40, 99);
        x.order(1, 0, false);
        x.order(1, 0, false);
        CHECK.due("step() of just enough", x.step(), 3);
        CHECK.due("step() with all of it reserved", x.step(), -1);
        dueState("with all of it reserved", x, 4, 3, 2, 0, -1, -1, 0, 0);
        CHECK.due("sample", x.volume(0, 0), 90);
        x.rack(1, 4, 0, 9);
        x.order(4, 0, false);
        x.step();
        CHECK.due("of sample and reagent the sample's reason", x.state(5, 1), 1);
    }

    private static void failuresAheadOfCuvettes() {
        SampleAnalyser x = new SampleAnalyser();
        Setup.define(x, 0, 0, 10, 7, 12, 8, 12, 11, 20000);
        Setup.curve(x, 0, 0, 0, 16384, 16384);
        x.seal(0);
        Setup.withReagent(x, 1, 0, 10, 1);
        x.rack(0, 1, 0, 100);
        x.rack(1, 2, 0, 10000);
        for (int n = 0; n < 12; n++) {
            x.order(1, 0, false);
        }
        CHECK.row("step()", new int[] {0, 1, 2, 3, 4, 5, 6, 7, 8, 9}, x::step);
        x.order(2, 1, false);
        x.order(2, 0, false);
        CHECK.due("step() with all cuvettes taken", x.step(), -1);
        CHECK.due("sample short", x.state(10, 1), 1);
        CHECK.due("sample short", x.state(11, 1), 1);
        CHECK.due("reagent short", x.state(12, 1), 2);
        CHECK.due("waits for a cuvette", x.state(13, 0), 0);
        CHECK.due("step() at age 11", x.step(), -1);
        CHECK.due("step() at age 12", x.step(), -1);
        CHECK.due("step(): wash 3", x.step(), -1);
        CHECK.due("step(): wash 2", x.step(), -1);
        CHECK.due("step(): wash 1", x.step(), -1);
        CHECK.due("wash", x.cuvette(0, 1), 1);
        CHECK.due("step(): clean", x.step(), 13);
        CHECK.due("its cuvette", x.state(13, 3), 0);
    }

    private static void onlyUpToTheOneThatStarts() {
        SampleAnalyser x = new SampleAnalyser();
        Setup.plain(x, 0);
        x.rack(0, 1, 0, 100);
        x.rack(1, 2, 0, 1);
        x.order(2, 0, false);
        x.order(1, 0, false);
        x.order(2, 0, false);
        CHECK.due("step()", x.step(), 1);
        CHECK.due("ahead of it", x.state(0, 0), 3);
        CHECK.due("behind it", x.state(2, 0), 0);
        CHECK.due("idle()", x.idle(), 0);
        CHECK.due("step()", x.step(), -1);
        CHECK.due("then", x.state(2, 0), 3);
        CHECK.due("idle()", x.idle(), 1);
    }
}
