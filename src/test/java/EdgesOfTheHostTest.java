/** The edges of promises 20 (host) and 21 (took). */
public final class EdgesOfTheHostTest {
    private static final int MIN = Check.MIN;
    private static final int MAX = Check.MAX;
    private static final Class<IndexOutOfBoundsException> INDEX = IndexOutOfBoundsException.class;
    private static final Check CHECK = new Check();

    public static void main(String[] args) {
        host();
        took();
        whatWaits();
        CHECK.end();
    }

    /** As many orders as told, released one in a step, in the order of their numbers. */
    private static SampleAnalyser released(int orders) {
        SampleAnalyser x = new SampleAnalyser();
        Setup.plain(x, 0);
        x.rack(0, 1, 0, 1000);
        release(x, orders);
        return x;
    }

    private static void release(SampleAnalyser x, int orders) {
        for (int n = 0; n < orders; n++) {
            x.order(1, 0, false);
        }
        Setup.steps(x, orders + 2);
    }

    private static void dueQueue(SampleAnalyser x, int... orders) {
        for (int i = 0; i < orders.length; i++) {
            CHECK.due("host(" + i + ")", x.host(i), orders[i]);
        }
        CHECK.refuses("host(" + orders.length + ")", INDEX, () -> x.host(orders.length));
    }

    // ---- promise 20 ----

    private static void host() {
        CHECK.edge("host: IndexOutOfBoundsException if there is none such, with none at all", () -> {
            SampleAnalyser x = new SampleAnalyser();
            for (int wrong : new int[] {-1, 0, 1, 39, 40, MIN, MAX}) {
                CHECK.refuses("host(" + wrong + ")", INDEX, () -> x.host(wrong));
            }
        });
        CHECK.edge("host: IndexOutOfBoundsException if there is none such, with one", () -> {
            SampleAnalyser x = released(1);
            CHECK.due("host(0)", x.host(0), 0);
            for (int wrong : new int[] {-1, 1, 39, 40, MIN, MAX}) {
                CHECK.refuses("host(" + wrong + ")", INDEX, () -> x.host(wrong));
            }
        });
        CHECK.edge("host: IndexOutOfBoundsException if there is none such, with 40", () -> {
            SampleAnalyser x = released(40);
            CHECK.due("host(0)", x.host(0), 0);
            CHECK.due("host(39)", x.host(39), 39);
            for (int wrong : new int[] {-1, 40, MIN, MAX}) {
                CHECK.refuses("host(" + wrong + ")", INDEX, () -> x.host(wrong));
            }
        });
        CHECK.edge("in the order in which they were released", () -> {
            SampleAnalyser x = new SampleAnalyser();
            Setup.plain(x, 0);
            x.rack(0, 1, 0, 100);
            boolean[] urgent = {false, true, false, true};
            for (boolean u : urgent) {
                x.order(1, 0, u);
            }
            Setup.steps(x, 6);
            dueQueue(x, 1, 3, 0, 2);
        });
        CHECK.edge("host: asking takes nothing", () -> {
            SampleAnalyser x = released(2);
            dueQueue(x, 0, 1);
            dueQueue(x, 0, 1);
            CHECK.due("took(0)", x.took(0), 2);
        });
    }

    // ---- promise 21 ----

    private static void took() {
        CHECK.edge("took: IllegalArgumentException if there are not so many", () -> {
            SampleAnalyser none = new SampleAnalyser();
            CHECK.refusesArgument("took(1) of none", () -> none.took(1));
            CHECK.refusesArgument("took(greatest) of none", () -> none.took(MAX));
            SampleAnalyser x = released(3);
            CHECK.refusesArgument("took(4) of three", () -> x.took(4));
            CHECK.refusesArgument("took(40) of three", () -> x.took(40));
            dueQueue(x, 0, 1, 2);
            CHECK.due("took(3) of three", x.took(3), 0);
            CHECK.refusesArgument("took(1) of none any more", () -> x.took(1));
        });
        CHECK.edge("took: ... or n is below 0", () -> {
            SampleAnalyser x = released(3);
            CHECK.refusesArgument("took(-1)", () -> x.took(-1));
            CHECK.refusesArgument("took(-3)", () -> x.took(-3));
            CHECK.refusesArgument("took(least)", () -> x.took(MIN));
            dueQueue(x, 0, 1, 2);
        });
        CHECK.edge("took: 0 of them", () -> {
            CHECK.due("of none", new SampleAnalyser().took(0), 0);
            SampleAnalyser x = released(2);
            CHECK.due("of two", x.took(0), 2);
            dueQueue(x, 0, 1);
        });
        CHECK.edge("the host took the first n: how many wait then", () -> {
            SampleAnalyser x = released(5);
            CHECK.due("took(1)", x.took(1), 4);
            dueQueue(x, 1, 2, 3, 4);
            CHECK.due("took(2)", x.took(2), 2);
            dueQueue(x, 3, 4);
            CHECK.due("took(2)", x.took(2), 0);
            dueQueue(x);
        });
        CHECK.edge("took: all 40 of them", () -> {
            SampleAnalyser x = released(40);
            CHECK.refusesArgument("took(41)", () -> x.took(41));
            CHECK.due("took(39)", x.took(39), 1);
            dueQueue(x, 39);
            CHECK.due("took(1)", x.took(1), 0);
            dueQueue(x);
        });
        CHECK.edge("took: those that are released behind it wait behind the rest", () -> {
            SampleAnalyser x = released(3);
            x.took(2);
            release(x, 2);
            dueQueue(x, 2, 3, 4);
            x.took(3);
            release(x, 1);
            dueQueue(x, 5);
        });
        CHECK.edge("took: over and over, 40 in all", () -> {
            SampleAnalyser x = released(10);
            for (int first = 10; first < 40; first += 10) {
                CHECK.due("took(9)", x.took(9), 1);
                release(x, 10);
                CHECK.due("host(0)", x.host(0), first - 1);
                CHECK.due("host(10)", x.host(10), first + 9);
                CHECK.due("took(1)", x.took(1), 10);
            }
            CHECK.due("took(10)", x.took(10), 0);
            dueQueue(x);
        });
        CHECK.edge("took: the order is still released", () -> {
            SampleAnalyser x = released(1);
            x.took(1);
            CHECK.due("state(0, 0)", x.state(0, 0), 2);
            CHECK.due("state(0, 5)", x.state(0, 5), 1);
        });
    }

    private static void whatWaits() {
        CHECK.edge("RELEASED results wait for the host: not what runs", () -> {
            SampleAnalyser x = new SampleAnalyser();
            Setup.plain(x, 0);
            x.rack(0, 1, 0, 1000);
            x.order(1, 0, false);
            CHECK.due("took(0), waiting", x.took(0), 0);
            Setup.steps(x, 2);
            CHECK.due("took(0), running", x.took(0), 0);
            x.step();
            CHECK.due("took(0), released", x.took(0), 1);
        });
        CHECK.edge("RELEASED results wait for the host: not what failed", () -> {
            SampleAnalyser x = new SampleAnalyser();
            Setup.plain(x, 0);
            x.rack(0, 1, 0, 9);
            x.order(1, 0, false);
            x.step();
            CHECK.due("state(0, 0)", x.state(0, 0), 3);
            dueQueue(x);
        });
        CHECK.edge("RELEASED results wait for the host: not a first run that is repeated", () -> {
            SampleAnalyser x = new SampleAnalyser();
            Setup.plain(x, 0);
            Setup.define(x, 0, 10, 2, 12, Setup.REPEAT);
            x.seal(0);
            x.rack(0, 1, 0, 1000);
            x.order(1, 0, false);
            CHECK.row("step()", new int[] {0, -1, 0}, x::step);
            dueQueue(x);
            Setup.steps(x, 2);
            dueQueue(x, 0);
        });
        CHECK.edge("results of controls wait for the host, too", () -> {
            SampleAnalyser x = new SampleAnalyser();
            Setup.plain(x, 0);
            x.rack(0, 1, 1, 1000);
            x.rack(1, 2, 0, 1000);
            x.order(1, 0, false);
            x.order(2, 0, false);
            x.order(1, 0, false);
            Setup.steps(x, 5);
            dueQueue(x, 0, 1, 2);
        });
    }
}
