import java.util.ArrayList;
import java.util.List;
import java.util.NoSuchElementException;
import java.util.function.Consumer;
import java.util.function.IntSupplier;
import java.util.function.Supplier;

/**
 * A refused call changes nothing: of two objects that had the same calls, one has a refused call more, and from then on
 * both answer alike, also to calls that bring to light what can't be asked for.
 */
public final class RefusedCallsTest {
    private static final int MIN = Check.MIN;
    private static final int MAX = Check.MAX;
    private static final Class<NoSuchElementException> ELEMENT = NoSuchElementException.class;
    private static final Class<IndexOutOfBoundsException> INDEX = IndexOutOfBoundsException.class;
    private static final Check CHECK = new Check();

    public static void main(String[] args) {
        protocols();
        places();
        orders();
        inputs();
        questions();
        CHECK.end();
    }

    /**
     * Test 0 with a history, a released order, two that run, one that waits and a clot to come; a forbidden succession,
     * minute 50 and a light; test 1 sealed without orders, test 2 right but not sealed, test 3 new.
     */
    private static SampleAnalyser busy() {
        SampleAnalyser x = new SampleAnalyser();
        Setup.withReagents(x, 0, 0, 30, 1, 1, 20, 3);
        Setup.define(x, 0, 11, 5000, 12, Setup.DILUTE);
        x.seal(0);
        Setup.plain(x, 1);
        Setup.plain(x, 2);
        x.define(2, 0, 11);
        x.clock(50);
        x.rack(0, 1, 0, 100);
        x.rack(1, 2, 1, 100);
        x.reagent(0, 0, 200, 60);
        x.reagent(1, 1, 200, 60);
        x.forbid(2, 3);
        x.order(2, 0, false);
        x.order(1, 0, false);
        Setup.lightOf(x, 9);
        Setup.steps(x, 6);
        x.order(1, 0, false);
        x.order(7, 0, true);
        Setup.steps(x, 2);
        x.spoil(0);
        return x;
    }

    /** All slots taken, all 40 orders given, and a curve of five points. */
    private static SampleAnalyser full() {
        SampleAnalyser x = new SampleAnalyser();
        Setup.plain(x, 0);
        Setup.plain(x, 3);
        Setup.curve(x, 3, 17000, 17000, 18000, 18000, 19000, 19000);
        for (int slot = 0; slot < 6; slot++) {
            x.rack(slot, slot + 1, 0, 100);
        }
        for (int n = 0; n < 40; n++) {
            x.order(n % 6 + 1, 0, n % 2 == 0);
        }
        Setup.steps(x, 4);
        return x;
    }

    private static void unchanged(String call, Class<? extends RuntimeException> want, Supplier<SampleAnalyser> maker,
            Consumer<SampleAnalyser> refused) {
        SampleAnalyser x = maker.get();
        SampleAnalyser twin = maker.get();
        CHECK.refuses(call, want, () -> refused.accept(x));
        List<Integer> got = answers(x);
        List<Integer> due = answers(twin);
        CHECK.due(call + ": the number of answers behind it", got.size(), due.size());
        for (int i = 0; i < due.size(); i++) {
            CHECK.due(call + ": answer " + i + " behind it", got.get(i), due.get(i));
        }
    }

    private static int answer(IntSupplier call) {
        try {
            return call.getAsInt();
        } catch (IllegalArgumentException e) {
            return -2000000001;
        } catch (IllegalStateException e) {
            return -2000000002;
        } catch (NoSuchElementException e) {
            return -2000000003;
        } catch (IndexOutOfBoundsException e) {
            return -2000000004;
        }
    }

    private static int done(Runnable call) {
        return answer(() -> {
            call.run();
            return 1;
        });
    }

    /** Some 250 calls, so that with those that made it no object has more than 512. */
    private static List<Integer> answers(SampleAnalyser x) {
        List<Integer> all = new ArrayList<>();
        ask(x, all);
        for (int n = 0; n < 8; n++) {
            all.add(x.step());
        }
        askOrders(x, all);
        probe(x, all);
        return all;
    }

    private static void askOrders(SampleAnalyser x, List<Integer> all) {
        for (int order = 0; order < 5; order++) {
            for (int what = 0; what < 7; what++) {
                int n = order;
                int w = what;
                all.add(answer(() -> x.state(n, w)));
            }
        }
        all.add(x.idle());
        all.add(x.took(0));
    }

    private static void ask(SampleAnalyser x, List<Integer> all) {
        askOrders(x, all);
        for (int i = 0; i < 30; i++) {
            all.add(x.cuvette(i / 3, i % 3));
        }
        for (int i = 0; i < 24; i++) {
            int place = i;
            all.add(answer(() -> x.volume(place / 8, place % 8)));
        }
        for (int test = 0; test < 4; test++) {
            int t = test;
            all.add(x.rules(t));
            all.add(answer(() -> x.trend(t, 0)));
            all.add(answer(() -> x.trend(t, 1)));
        }
        all.add(answer(() -> x.host(0)));
        all.add(answer(() -> x.host(1)));
    }

    /** What can't be asked for: minute, successions, seals, curves, codes of racks, kinds and expiry of reagents. */
    private static void probe(SampleAnalyser x, List<Integer> all) {
        all.add(done(() -> x.clock(49)));
        all.add(done(() -> x.clock(50)));
        for (int pair = 0; pair < 36; pair++) {
            all.add(x.forbid(pair / 6, pair % 6) ? 1 : 0);
            x.forbid(pair / 6, pair % 6);
        }
        for (int test = 0; test < 4; test++) {
            int t = test;
            all.add(answer(() -> x.order(1, t, true)));
        }
        all.add(x.step());
        all.add(x.step());
        for (int test = 0; test < 4; test++) {
            int t = test;
            all.add(answer(() -> x.curve(t, 900000, 900000)));
            all.add(x.seal(t) ? 1 : 0);
        }
        for (int code = 1; code < 8; code++) {
            int c = code;
            all.add(done(() -> x.rack(5, c, 0, 10)));
            all.add(answer(() -> x.removeRack(5)));
        }
    }

    // ---- each call of the face that can be refused ----

    private static void refusedByBoth(String call, Class<? extends RuntimeException> want,
            Consumer<SampleAnalyser> refused) {
        unchanged(call + ", a new object", want, SampleAnalyser::new, refused);
        unchanged(call + ", a busy object", want, RefusedCallsTest::busy, refused);
    }

    private static void protocols() {
        CHECK.edge("define: IllegalArgumentException", () -> {
            refusedByBoth("define(4, 0, 1)", Check.ARGUMENT, x -> x.define(4, 0, 1));
            refusedByBoth("define(1, 16, 1)", Check.ARGUMENT, x -> x.define(1, 16, 1));
            refusedByBoth("define(1, 0, 501)", Check.ARGUMENT, x -> x.define(1, 0, 501));
            refusedByBoth("define(1, 13, 1)", Check.ARGUMENT, x -> x.define(1, 13, 1));
            refusedByBoth("define(0, 15, 0)", Check.ARGUMENT, x -> x.define(0, 15, 0));
        });
        CHECK.edge("define: IllegalStateException", () -> {
            unchanged("define(0, 0, 1)", Check.STATE, RefusedCallsTest::busy, x -> x.define(0, 0, 1));
            unchanged("define(0, 14, 9000)", Check.STATE, RefusedCallsTest::busy, x -> x.define(0, 14, 9000));
            unchanged("define(0, 12, 0)", Check.STATE, RefusedCallsTest::full, x -> x.define(0, 12, 0));
        });
        CHECK.edge("curve: IllegalArgumentException", () -> {
            refusedByBoth("curve(4, 0, 0)", Check.ARGUMENT, x -> x.curve(4, 0, 0));
            refusedByBoth("curve(1, 1000001, 0)", Check.ARGUMENT, x -> x.curve(1, 1000001, 0));
            refusedByBoth("curve(1, -1000001, 0)", Check.ARGUMENT, x -> x.curve(1, -1000001, 0));
            refusedByBoth("curve(1, 800000, 1000001)", Check.ARGUMENT, x -> x.curve(1, 800000, 1000001));
        });
        CHECK.edge("curve: IllegalStateException", () -> {
            unchanged("curve of what is ordered", Check.STATE, RefusedCallsTest::busy, x -> x.curve(0, 20000, 20000));
            unchanged("curve below, of what is ordered", Check.STATE, RefusedCallsTest::busy, x -> x.curve(0, -1, -1));
            unchanged("curve with the last x", Check.STATE, RefusedCallsTest::busy, x -> x.curve(1, 16384, 5));
            unchanged("a sixth point", Check.STATE, RefusedCallsTest::full, x -> x.curve(3, 20000, 20000));
            unchanged("a sixth point below", Check.STATE, RefusedCallsTest::full, x -> x.curve(3, 0, 0));
        });
        CHECK.edge("seal: IllegalArgumentException", () -> {
            refusedByBoth("seal(-1)", Check.ARGUMENT, x -> x.seal(-1));
            refusedByBoth("seal(4)", Check.ARGUMENT, x -> x.seal(4));
        });
    }

    private static void places() {
        CHECK.edge("rack: IllegalArgumentException", () -> {
            refusedByBoth("rack(6, 3, 0, 10)", Check.ARGUMENT, x -> x.rack(6, 3, 0, 10));
            refusedByBoth("rack(5, 0, 0, 10)", Check.ARGUMENT, x -> x.rack(5, 0, 0, 10));
            refusedByBoth("rack(5, 3, 2, 10)", Check.ARGUMENT, x -> x.rack(5, 3, 2, 10));
            refusedByBoth("rack(5, 3, 0, 100001)", Check.ARGUMENT, x -> x.rack(5, 3, 0, 100001));
            refusedByBoth("rack(0, 3, 0, -1)", Check.ARGUMENT, x -> x.rack(0, 3, 0, -1));
        });
        CHECK.edge("rack: IllegalStateException", () -> {
            unchanged("rack into a taken slot", Check.STATE, RefusedCallsTest::busy, x -> x.rack(0, 3, 1, 10));
            unchanged("rack of a code in another slot", Check.STATE, RefusedCallsTest::busy, x -> x.rack(5, 1, 0, 10));
            unchanged("rack with all slots taken", Check.STATE, RefusedCallsTest::full, x -> x.rack(5, 7, 0, 10));
        });
        CHECK.edge("removeRack: each of its exceptions", () -> {
            refusedByBoth("removeRack(6)", Check.ARGUMENT, x -> x.removeRack(6));
            refusedByBoth("removeRack(-1)", Check.ARGUMENT, x -> x.removeRack(-1));
            refusedByBoth("removeRack(5)", ELEMENT, x -> x.removeRack(5));
            unchanged("removeRack of what is ordered", Check.STATE, RefusedCallsTest::busy, x -> x.removeRack(0));
        });
        CHECK.edge("reagent: IllegalArgumentException", () -> {
            refusedByBoth("reagent(8, 0, 1, 1)", Check.ARGUMENT, x -> x.reagent(8, 0, 1, 1));
            refusedByBoth("reagent(5, 6, 1, 1)", Check.ARGUMENT, x -> x.reagent(5, 6, 1, 1));
            refusedByBoth("reagent(5, 0, 100001, 1)", Check.ARGUMENT, x -> x.reagent(5, 0, 100001, 1));
            refusedByBoth("reagent(5, 0, 1, -1)", Check.ARGUMENT, x -> x.reagent(5, 0, 1, -1));
            refusedByBoth("reagent(0, 0, -1, 1)", Check.ARGUMENT, x -> x.reagent(0, 0, -1, 1));
        });
        CHECK.edge("reagent: IllegalStateException", () -> {
            unchanged("reagent where it is reserved", Check.STATE, RefusedCallsTest::busy, x -> x.reagent(1, 5, 1, 1));
        });
        CHECK.edge("volume: each of its exceptions", () -> {
            refusedByBoth("volume(3, 0)", Check.ARGUMENT, x -> x.volume(3, 0));
            refusedByBoth("volume(0, 6)", Check.ARGUMENT, x -> x.volume(0, 6));
            refusedByBoth("volume(1, 8)", Check.ARGUMENT, x -> x.volume(1, 8));
            refusedByBoth("volume(0, 5)", ELEMENT, x -> x.volume(0, 5));
            refusedByBoth("volume(1, 5)", ELEMENT, x -> x.volume(1, 5));
            refusedByBoth("volume(2, 5)", ELEMENT, x -> x.volume(2, 5));
        });
    }

    private static void orders() {
        CHECK.edge("order: IllegalArgumentException", () -> {
            refusedByBoth("order(0, 1, true)", Check.ARGUMENT, x -> x.order(0, 1, true));
            refusedByBoth("order(1000000, 1, true)", Check.ARGUMENT, x -> x.order(1000000, 1, true));
            refusedByBoth("order(1, 4, true)", Check.ARGUMENT, x -> x.order(1, 4, true));
        });
        CHECK.edge("order: IllegalStateException", () -> {
            refusedByBoth("order of what is not sealed", Check.STATE, x -> x.order(1, 2, true));
            unchanged("order 40", Check.STATE, RefusedCallsTest::full, x -> x.order(1, 0, true));
        });
        CHECK.edge("state: IllegalArgumentException", () -> {
            refusedByBoth("state(39, 0)", Check.ARGUMENT, x -> x.state(39, 0));
            refusedByBoth("state(-1, 0)", Check.ARGUMENT, x -> x.state(-1, 0));
            refusedByBoth("state(0, 7)", Check.ARGUMENT, x -> x.state(0, 7));
        });
    }

    private static void inputs() {
        CHECK.edge("forbid: IllegalArgumentException", () -> {
            refusedByBoth("forbid(6, 0)", Check.ARGUMENT, x -> x.forbid(6, 0));
            refusedByBoth("forbid(0, 6)", Check.ARGUMENT, x -> x.forbid(0, 6));
            refusedByBoth("forbid(2, -1)", Check.ARGUMENT, x -> x.forbid(2, -1));
        });
        CHECK.edge("clock: IllegalArgumentException", () -> {
            refusedByBoth("clock(-1)", Check.ARGUMENT, x -> x.clock(-1));
            unchanged("clock(49)", Check.ARGUMENT, RefusedCallsTest::busy, x -> x.clock(49));
            unchanged("clock(0)", Check.ARGUMENT, RefusedCallsTest::busy, x -> x.clock(0));
        });
        CHECK.edge("light: IllegalArgumentException", () -> {
            refusedByBoth("light(0)", Check.ARGUMENT, x -> x.light(0));
            refusedByBoth("light(65536)", Check.ARGUMENT, x -> x.light(65536));
            refusedByBoth("light(least)", Check.ARGUMENT, x -> x.light(MIN));
        });
        CHECK.edge("spoil: IllegalArgumentException", () -> {
            refusedByBoth("spoil(2)", Check.ARGUMENT, x -> x.spoil(2));
            refusedByBoth("spoil(-1)", Check.ARGUMENT, x -> x.spoil(-1));
            unchanged("spoil(2), full", Check.ARGUMENT, RefusedCallsTest::full, x -> x.spoil(2));
        });
    }

    private static void questions() {
        CHECK.edge("cuvette: IllegalArgumentException", () -> {
            refusedByBoth("cuvette(10, 0)", Check.ARGUMENT, x -> x.cuvette(10, 0));
            refusedByBoth("cuvette(0, 3)", Check.ARGUMENT, x -> x.cuvette(0, 3));
        });
        CHECK.edge("trend: each of its exceptions", () -> {
            refusedByBoth("trend(4, 0)", Check.ARGUMENT, x -> x.trend(4, 0));
            refusedByBoth("trend(0, 1)", INDEX, x -> x.trend(0, 1));
            refusedByBoth("trend(1, -1)", INDEX, x -> x.trend(1, -1));
        });
        CHECK.edge("rules: IllegalArgumentException", () -> {
            refusedByBoth("rules(4)", Check.ARGUMENT, x -> x.rules(4));
            refusedByBoth("rules(-1)", Check.ARGUMENT, x -> x.rules(-1));
        });
        CHECK.edge("host: IndexOutOfBoundsException", () -> {
            refusedByBoth("host(-1)", INDEX, x -> x.host(-1));
            refusedByBoth("host(40)", INDEX, x -> x.host(40));
            refusedByBoth("host(greatest)", INDEX, x -> x.host(MAX));
        });
        CHECK.edge("took: IllegalArgumentException", () -> {
            refusedByBoth("took(-1)", Check.ARGUMENT, x -> x.took(-1));
            refusedByBoth("took(3)", Check.ARGUMENT, x -> x.took(3));
            refusedByBoth("took(greatest)", Check.ARGUMENT, x -> x.took(MAX));
        });
    }
}
