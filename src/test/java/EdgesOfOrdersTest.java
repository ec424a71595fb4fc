/** The edges of promises 9 (order) and 15 (state), and of what starts, waits and fails under ORDERS. */
public final class EdgesOfOrdersTest {
    private static final int MIN = Check.MIN;
    private static final int MAX = Check.MAX;
    private static final Check CHECK = new Check();

    public static void main(String[] args) {
        order();
        fortyInAll();
        whoIsFirst();
        sampleShort();
        reagentShort();
        whichPosition();
        twoOfOneKind();
        lookedAt();
        argumentsOfState();
        answersOfState();
        CHECK.end();
    }

    private static SampleAnalyser plain(int volume) {
        SampleAnalyser x = new SampleAnalyser();
        Setup.plain(x, 0);
        x.rack(0, 1, 0, volume);
        return x;
    }

    private static void dueState(SampleAnalyser x, int order, int... wants) {
        for (int what = 0; what < wants.length; what++) {
            CHECK.due("state(" + order + ", " + what + ")", x.state(order, what), wants[what]);
        }
    }

    // ---- promise 9 ----

    private static void order() {
        CHECK.edge("order: no such code (1 .. 999999)", () -> {
            SampleAnalyser x = new SampleAnalyser();
            Setup.plain(x, 0);
            for (int wrong : new int[] {-1, 0, 1000000, MIN, MAX}) {
                CHECK.refusesArgument("order of code " + wrong, () -> x.order(wrong, 0, false));
            }
            CHECK.due("order of code 1", x.order(1, 0, false), 0);
            CHECK.due("order of code 999999", x.order(999999, 0, false), 1);
        });
        CHECK.edge("order: no such test", () -> {
            SampleAnalyser x = new SampleAnalyser();
            Setup.plain(x, 0);
            Setup.plain(x, 3);
            for (int wrong : new int[] {-1, 4, MIN, MAX}) {
                CHECK.refusesArgument("order of test " + wrong, () -> x.order(1, wrong, false));
            }
            CHECK.due("order of test 0", x.order(1, 0, false), 0);
            CHECK.due("order of test 3", x.order(1, 3, false), 1);
        });
        CHECK.edge("order: IllegalStateException if the test is not sealed", () -> {
            SampleAnalyser x = new SampleAnalyser();
            Setup.plain(x, 0);
            CHECK.refusesState("order of test 1", () -> x.order(1, 1, false));
            CHECK.refusesArgument("order of test 1 for code 0", () -> x.order(0, 1, false));
            CHECK.refusesArgument("there is no order 0 then", () -> x.state(0, 0));
            CHECK.due("the next order's number", x.order(1, 0, true), 0);
        });
        CHECK.edge("order: a code that is in no slot is taken", () -> {
            SampleAnalyser x = new SampleAnalyser();
            Setup.plain(x, 0);
            CHECK.due("order(5, 0, false)", x.order(5, 0, false), 0);
            dueState(x, 0, 0, 0, 0, -1, -1, 0, 0);
        });
        CHECK.edge("order: the same one twice is two", () -> {
            SampleAnalyser x = plain(100);
            CHECK.due("order", x.order(1, 0, false), 0);
            CHECK.due("the same", x.order(1, 0, false), 1);
            CHECK.row("step()", new int[] {0, 1, -1}, x::step);
        });
    }

    private static void fortyInAll() {
        CHECK.edge("ORDERS (at most 40 in all)", () -> {
            SampleAnalyser x = plain(100);
            Setup.plain(x, 1);
            for (int n = 0; n < 40; n++) {
                CHECK.due("order " + n, x.order(n + 1, n % 2, n % 3 == 0), n);
            }
            CHECK.refusesState("order 40", () -> x.order(1, 0, false));
            CHECK.refusesState("order 40, urgent", () -> x.order(1, 0, true));
            CHECK.refusesArgument("order 40 for code 0", () -> x.order(0, 0, true));
            CHECK.due("state(39, 0)", x.state(39, 0), 0);
            CHECK.refusesArgument("state(40, 0)", () -> x.state(40, 0));
        });
        CHECK.edge("... in all: also of those that are released and failed", () -> {
            SampleAnalyser x = plain(390);
            for (int n = 0; n < 40; n++) {
                x.order(1, 0, false);
            }
            Setup.steps(x, 45);
            CHECK.due("released", x.state(38, 0), 2);
            CHECK.due("failed", x.state(39, 0), 3);
            CHECK.refusesState("order 40", () -> x.order(1, 0, false));
            x.took(39);
            CHECK.refusesState("order 40 when the host took them", () -> x.order(1, 0, false));
        });
    }

    private static void whoIsFirst() {
        CHECK.edge("urgent ones first, then by number", () -> {
            SampleAnalyser x = plain(1000);
            boolean[] urgent = {false, false, true, false, true};
            for (boolean u : urgent) {
                x.order(1, 0, u);
            }
            CHECK.row("step()", new int[] {2, 4, 0, 1, 3, -1}, x::step);
        });
        CHECK.edge("urgent ones first: the last of 40", () -> {
            SampleAnalyser x = plain(1000);
            for (int n = 0; n < 40; n++) {
                x.order(1, 0, n == 39);
            }
            CHECK.row("step()", new int[] {39, 0, 1}, x::step);
        });
        CHECK.edge("the first one that CAN START: an urgent one without a rack does not hinder", () -> {
            SampleAnalyser x = plain(100);
            x.order(2, 0, true);
            x.order(1, 0, false);
            CHECK.due("step()", x.step(), 1);
            CHECK.due("the urgent one waits", x.state(0, 0), 0);
        });
        CHECK.edge("an order whose code is in no slot waits", () -> {
            SampleAnalyser x = new SampleAnalyser();
            Setup.withReagent(x, 0, 0, 10, 1);
            x.order(7, 0, false);
            CHECK.row("step() without rack and reagent", new int[] {-1, -1}, x::step);
            dueState(x, 0, 0, 0, 0, -1, -1, 0, 0);
            x.reagent(0, 0, 10, 9);
            CHECK.due("step() without a rack", x.step(), -1);
            x.rack(5, 7, 0, 10);
            CHECK.due("step() with both", x.step(), 0);
        });
        CHECK.edge("its code is in a slot: in whichever", () -> {
            for (int slot = 0; slot < 6; slot++) {
                SampleAnalyser x = new SampleAnalyser();
                Setup.plain(x, 0);
                for (int other = 0; other < 6; other++) {
                    x.rack(other, other + 1, 0, 10 * other + 10);
                }
                x.order(slot + 1, 0, false);
                CHECK.due("step()", x.step(), 0);
                CHECK.due("volume(0, " + slot + ")", x.volume(0, slot), 10 * slot);
            }
        });
        CHECK.edge("its code is in a slot: in another one than before", () -> {
            SampleAnalyser x = plain(100);
            x.removeRack(0);
            x.order(1, 0, false);
            x.rack(3, 1, 0, 50);
            CHECK.due("step()", x.step(), 0);
            CHECK.due("volume(0, 3)", x.volume(0, 3), 40);
        });
    }

    // ---- reason 1 ----

    private static void sampleShort() {
        CHECK.edge("whose sample's volume in the slot is not enough FAILS (reason 1)", () -> {
            SampleAnalyser enough = plain(10);
            enough.order(1, 0, false);
            CHECK.due("step() with just enough", enough.step(), 0);
            CHECK.due("volume(0, 0)", enough.volume(0, 0), 0);
            SampleAnalyser less = plain(9);
            less.order(1, 0, false);
            CHECK.due("step() with one less", less.step(), -1);
            dueState(less, 0, 3, 1, 0, -1, -1, 0, 0);
            CHECK.due("volume(0, 0)", less.volume(0, 0), 9);
            SampleAnalyser empty = plain(0);
            empty.order(1, 0, false);
            CHECK.due("step() with nothing", empty.step(), -1);
            dueState(empty, 0, 3, 1, 0, -1, -1, 0, 0);
        });
        CHECK.edge("a sample of 500 and one of 1", () -> {
            for (int sample : new int[] {1, 500}) {
                SampleAnalyser x = new SampleAnalyser();
                Setup.plain(x, 0);
                x.define(0, 0, sample);
                x.seal(0);
                x.rack(0, 1, 0, 2 * sample - 1);
                x.order(1, 0, false);
                x.order(1, 0, false);
                CHECK.row("step()", new int[] {0, -1}, x::step);
                CHECK.due("volume(0, 0)", x.volume(0, 0), sample - 1);
                CHECK.due("cuvette(0, 2)", x.cuvette(0, 2), sample);
                dueState(x, 1, 3, 1, 0);
            }
        });
        CHECK.edge("reason 1 of a diluted run: a sample of volume / dilution is enough", () -> {
            CHECK.due("just enough", diluted(12).state(0, 0), 1);
            CHECK.due("one less", diluted(11).state(0, 1), 1);
        });
        CHECK.edge("reason 1 is looked at ahead of cuvettes", () -> {
            SampleAnalyser x = tenBusy();
            x.rack(1, 2, 0, 9);
            x.rack(2, 3, 0, 10);
            int shortOne = x.order(2, 0, false);
            int other = x.order(3, 0, false);
            CHECK.due("step() with no clean cuvette", x.step(), -1);
            dueState(x, shortOne, 3, 1, 0);
            dueState(x, other, 0, 0, 0);
        });
        CHECK.edge("reason 1 is looked at ahead of bookings", () -> {
            SampleAnalyser x = booked();
            x.rack(1, 2, 0, 9);
            x.rack(2, 3, 0, 10);
            int shortOne = x.order(2, 1, false);
            int other = x.order(3, 1, false);
            CHECK.due("step() with its step booked", x.step(), -1);
            dueState(x, shortOne, 3, 1, 0);
            dueState(x, other, 0, 0, 0);
        });
        CHECK.edge("reason 1 is looked at ahead of reason 2", () -> {
            SampleAnalyser x = new SampleAnalyser();
            Setup.withReagent(x, 0, 0, 10, 1);
            x.rack(0, 1, 0, 9);
            x.order(1, 0, false);
            x.step();
            dueState(x, 0, 3, 1, 0);
        });
    }

    /** An order of a sample of 10, diluted to 2, from a slot of this volume, behind the step of its second run. */
    private static SampleAnalyser diluted(int volume) {
        SampleAnalyser x = plain(volume);
        Setup.define(x, 0, 11, 5000, 12, Setup.DILUTE, 13, 5);
        x.seal(0);
        x.order(1, 0, false);
        Setup.lightOf(x, 9);
        Setup.steps(x, 3);
        return x;
    }

    /** Ten orders of test 0 run, and none of them ends in the next two steps. */
    private static SampleAnalyser tenBusy() {
        SampleAnalyser x = new SampleAnalyser();
        Setup.read(x, 0, 12);
        x.rack(0, 1, 0, 100);
        for (int n = 0; n < 10; n++) {
            x.order(1, 0, false);
        }
        Setup.steps(x, 10);
        return x;
    }

    /** The reagent of test 1, due one step behind its start, has no step while the one of test 0 is booked for that. */
    private static SampleAnalyser booked() {
        SampleAnalyser x = new SampleAnalyser();
        Setup.withReagent(x, 0, 0, 10, 2);
        Setup.withReagent(x, 1, 1, 10, 1);
        x.rack(0, 1, 0, 100);
        x.reagent(0, 0, 10, 9);
        x.reagent(1, 1, 10, 9);
        x.order(1, 0, false);
        x.step();
        return x;
    }

    // ---- reason 2 ----

    private static SampleAnalyser wanting(int dose) {
        SampleAnalyser x = new SampleAnalyser();
        Setup.withReagent(x, 0, 2, dose, 3);
        x.rack(0, 1, 0, 100);
        x.order(1, 0, false);
        return x;
    }

    private static void dueShort(SampleAnalyser x, int order) {
        CHECK.due("step()", x.step(), -1);
        dueState(x, order, 3, 2, 0, -1, -1, 0, 0);
        CHECK.due("the sample is not taken", x.volume(0, 0), 100);
    }

    private static void reagentShort() {
        CHECK.edge("one that has not a position for each of its reagents FAILS (2)", () -> dueShort(wanting(40), 0));
        CHECK.edge("... a position of that kind", () -> {
            SampleAnalyser x = wanting(40);
            for (int p = 0; p < 8; p++) {
                x.reagent(p, p % 2 == 0 ? 1 : 3, 1000, 9);
            }
            dueShort(x, 0);
        });
        CHECK.edge("... that is not expired", () -> {
            SampleAnalyser x = wanting(40);
            x.reagent(0, 2, 1000, 5);
            x.clock(5);
            dueShort(x, 0);
            SampleAnalyser y = wanting(40);
            y.reagent(0, 2, 1000, 6);
            y.clock(5);
            CHECK.due("step() a minute before", y.step(), 0);
        });
        CHECK.edge("... with enough", () -> {
            SampleAnalyser less = wanting(40);
            less.reagent(0, 2, 39, 9);
            dueShort(less, 0);
            SampleAnalyser enough = wanting(40);
            enough.reagent(0, 2, 40, 9);
            CHECK.due("step() with just enough", enough.step(), 0);
            CHECK.due("volume(2, 0)", enough.volume(2, 0), 40);
        });
        CHECK.edge("... with enough, of one position, not of two together", () -> {
            SampleAnalyser x = wanting(40);
            x.reagent(0, 2, 39, 9);
            x.reagent(1, 2, 39, 9);
            dueShort(x, 0);
        });
        CHECK.edge("... with enough that is not reserved", () -> {
            SampleAnalyser less = wanting(40);
            less.reagent(0, 2, 79, 9);
            less.order(1, 0, false);
            CHECK.row("step()", new int[] {0, -1}, less::step);
            dueState(less, 1, 3, 2, 0);
            SampleAnalyser enough = wanting(40);
            enough.reagent(0, 2, 80, 9);
            enough.order(1, 0, false);
            CHECK.row("step()", new int[] {0, 1}, enough::step);
            CHECK.due("volume(2, 0)", enough.volume(2, 0), 80);
            CHECK.due("volume(1, 0)", enough.volume(1, 0), 80);
        });
        CHECK.edge("a volume of 2000 and one of 1", () -> {
            for (int dose : new int[] {1, 2000}) {
                SampleAnalyser x = wanting(dose);
                x.reagent(0, 2, dose, 9);
                CHECK.due("step()", x.step(), 0);
                Setup.steps(x, 3);
                CHECK.due("volume(1, 0)", x.volume(1, 0), 0);
                CHECK.due("cuvette(0, 2)", x.cuvette(0, 2), 10 + dose);
            }
        });
        CHECK.edge("a position for each: not for the second", () -> {
            SampleAnalyser x = new SampleAnalyser();
            Setup.withReagents(x, 0, 0, 10, 1, 5, 10, 2);
            x.rack(0, 1, 0, 100);
            x.reagent(0, 0, 10, 9);
            x.reagent(1, 5, 9, 9);
            x.order(1, 0, false);
            dueShort(x, 0);
            CHECK.due("nothing of the first is reserved", x.volume(2, 0), 0);
            x.reagent(1, 5, 10, 9);
            CHECK.due("order", x.order(1, 0, false), 1);
            CHECK.due("step() with both", x.step(), 1);
            CHECK.due("volume(2, 0)", x.volume(2, 0), 10);
            CHECK.due("volume(2, 1)", x.volume(2, 1), 10);
        });
        CHECK.edge("a position for each: not for the first", () -> {
            SampleAnalyser x = new SampleAnalyser();
            Setup.withReagents(x, 0, 0, 10, 1, 5, 10, 2);
            x.rack(0, 1, 0, 100);
            x.reagent(0, 0, 9, 9);
            x.reagent(1, 5, 10, 9);
            x.order(1, 0, false);
            dueShort(x, 0);
            CHECK.due("nothing of the second is reserved", x.volume(2, 1), 0);
        });
        CHECK.edge("reason 2 is looked at ahead of cuvettes", () -> {
            SampleAnalyser x = tenBusy();
            Setup.withReagent(x, 1, 0, 10, 1);
            x.rack(1, 2, 0, 100);
            int order = x.order(2, 1, false);
            CHECK.due("step() with no clean cuvette", x.step(), -1);
            dueState(x, order, 3, 2, 0);
        });
        CHECK.edge("reason 2 is looked at ahead of bookings", () -> {
            SampleAnalyser x = booked();
            x.reagent(1, 1, 9, 9);
            int order = x.order(1, 1, false);
            CHECK.due("step() with its step booked", x.step(), -1);
            dueState(x, order, 3, 2, 0);
        });
    }

    private static void whichPosition() {
        CHECK.edge("the one that expires first of these", () -> {
            for (int first = 0; first < 8; first++) {
                SampleAnalyser x = wanting(40);
                for (int p = 0; p < 8; p++) {
                    x.reagent(p, 2, 40, p == first ? 10 : 11);
                }
                x.step();
                CHECK.due("volume(2, " + first + ")", x.volume(2, first), 40);
            }
        });
        CHECK.edge("... of these: not one that has expired, lacks enough or is of another kind", () -> {
            SampleAnalyser x = wanting(40);
            x.clock(5);
            x.reagent(0, 2, 1000, 5);
            x.reagent(1, 2, 39, 6);
            x.reagent(2, 1, 1000, 6);
            x.reagent(3, 2, 1000, 8);
            x.reagent(4, 2, 40, 7);
            x.step();
            CHECK.due("volume(2, 4)", x.volume(2, 4), 40);
        });
        CHECK.edge("... then the least number", () -> {
            for (int least = 0; least < 8; least++) {
                SampleAnalyser x = wanting(40);
                for (int p = least; p < 8; p++) {
                    x.reagent(p, 2, 1000, 10);
                }
                x.step();
                CHECK.due("volume(2, " + least + ")", x.volume(2, least), 40);
            }
        });
        CHECK.edge("what is found for the order that starts is RESERVED till it is taken", () -> {
            SampleAnalyser x = wanting(40);
            x.reagent(0, 2, 100, 9);
            int[] reserved = {40, 40, 40, 0, 0};
            int[] left = {100, 100, 100, 60, 60};
            for (int age = 0; age < reserved.length; age++) {
                x.step();
                CHECK.due("reserved at age " + age, x.volume(2, 0), reserved[age]);
                CHECK.due("left at age " + age, x.volume(1, 0), left[age]);
            }
        });
        CHECK.edge("... for the order that starts: nothing for one that waits for a cuvette", () -> {
            SampleAnalyser x = tenBusy();
            Setup.withReagent(x, 1, 0, 10, 1);
            x.reagent(0, 0, 10, 9);
            x.rack(1, 2, 0, 100);
            int order = x.order(2, 1, true);
            x.step();
            dueState(x, order, 0, 0, 0);
            CHECK.due("volume(2, 0)", x.volume(2, 0), 0);
            CHECK.due("volume(0, 1)", x.volume(0, 1), 100);
        });
        CHECK.edge("... for the order that starts: nothing for one that waits for a booking", () -> {
            SampleAnalyser x = booked();
            int order = x.order(1, 1, false);
            CHECK.due("step()", x.step(), -1);
            dueState(x, order, 0, 0, 0);
            CHECK.due("volume(2, 1)", x.volume(2, 1), 0);
        });
        CHECK.edge("what is reserved is given though it has expired since", () -> {
            SampleAnalyser x = wanting(40);
            x.reagent(0, 2, 100, 1);
            x.step();
            x.clock(1);
            Setup.steps(x, 3);
            CHECK.due("volume(1, 0)", x.volume(1, 0), 60);
            CHECK.due("cuvette(0, 2)", x.cuvette(0, 2), 50);
            CHECK.due("it runs", x.state(0, 0), 1);
        });
    }

    private static SampleAnalyser pair(int firstDose, int secondDose) {
        SampleAnalyser x = new SampleAnalyser();
        Setup.withReagents(x, 0, 4, firstDose, 1, 4, secondDose, 2);
        x.rack(0, 1, 0, 100);
        x.order(1, 0, false);
        return x;
    }

    private static void twoOfOneKind() {
        CHECK.edge("two reagents of one kind: the second one is looked for with the first one reserved", () -> {
            SampleAnalyser enough = pair(60, 50);
            enough.reagent(0, 4, 110, 9);
            CHECK.due("step() with just enough for both", enough.step(), 0);
            CHECK.due("volume(2, 0)", enough.volume(2, 0), 110);
            SampleAnalyser less = pair(60, 50);
            less.reagent(0, 4, 109, 9);
            dueShort(less, 0);
            CHECK.due("volume(2, 0)", less.volume(2, 0), 0);
        });
        CHECK.edge("two reagents of one kind: from two positions", () -> {
            SampleAnalyser x = pair(60, 50);
            x.reagent(0, 4, 109, 8);
            x.reagent(1, 4, 50, 9);
            CHECK.due("step()", x.step(), 0);
            CHECK.due("volume(2, 0)", x.volume(2, 0), 60);
            CHECK.due("volume(2, 1)", x.volume(2, 1), 50);
            x.step();
            CHECK.due("volume(1, 0)", x.volume(1, 0), 49);
            CHECK.due("volume(1, 1)", x.volume(1, 1), 50);
            x.step();
            CHECK.due("volume(1, 1)", x.volume(1, 1), 0);
        });
        CHECK.edge("two reagents of one kind: the second one from one that expires ahead of the first one's", () -> {
            SampleAnalyser x = pair(60, 50);
            x.reagent(0, 4, 110, 9);
            x.reagent(1, 4, 50, 8);
            CHECK.due("step()", x.step(), 0);
            CHECK.due("volume(2, 0)", x.volume(2, 0), 60);
            CHECK.due("volume(2, 1)", x.volume(2, 1), 50);
        });
    }

    private static void lookedAt() {
        CHECK.edge("only up to the order that starts", () -> {
            SampleAnalyser x = plain(100);
            x.rack(1, 2, 0, 9);
            x.order(2, 0, false);
            x.order(1, 0, false);
            x.order(2, 0, false);
            CHECK.due("step()", x.step(), 1);
            dueState(x, 0, 3, 1, 0);
            dueState(x, 2, 0, 0, 0);
            CHECK.due("step()", x.step(), -1);
            dueState(x, 2, 3, 1, 0);
        });
        CHECK.edge("in the same order: an urgent one that starts is ahead of what would fail", () -> {
            SampleAnalyser x = plain(100);
            x.rack(1, 2, 0, 9);
            x.order(2, 0, false);
            x.order(1, 0, true);
            CHECK.due("step()", x.step(), 1);
            dueState(x, 0, 0, 0, 0);
        });
        CHECK.edge("one that fails starts nothing, and the next is looked at", () -> {
            SampleAnalyser x = plain(100);
            x.rack(1, 2, 0, 9);
            for (int n = 0; n < 5; n++) {
                x.order(2, 0, n % 2 == 0);
            }
            x.order(1, 0, false);
            CHECK.due("step()", x.step(), 5);
            for (int n = 0; n < 5; n++) {
                dueState(x, n, 3, 1, 0);
            }
            CHECK.due("idle()", x.idle(), 0);
        });
        CHECK.edge("a step in which an order failed and none started is idle", () -> {
            SampleAnalyser x = plain(9);
            x.order(1, 0, false);
            CHECK.due("step()", x.step(), -1);
            CHECK.due("idle()", x.idle(), 1);
        });
        CHECK.edge("in each step the first one: one order alone starts", () -> {
            SampleAnalyser x = plain(100);
            x.order(1, 0, false);
            x.order(1, 0, false);
            CHECK.due("step()", x.step(), 0);
            dueState(x, 1, 0, 0, 0);
            CHECK.due("cuvette(1, 0)", x.cuvette(1, 0), -1);
        });
    }

    // ---- promise 15 ----

    private static void argumentsOfState() {
        CHECK.edge("state: no such order", () -> {
            SampleAnalyser x = plain(100);
            for (int wrong : new int[] {-1, 0, 1, 39, MIN, MAX}) {
                CHECK.refusesArgument("state(" + wrong + ", 0) of none", () -> x.state(wrong, 0));
            }
            x.order(1, 0, false);
            CHECK.due("state(0, 0)", x.state(0, 0), 0);
            for (int wrong : new int[] {-1, 1, 39, MIN, MAX}) {
                CHECK.refusesArgument("state(" + wrong + ", 0) of one", () -> x.state(wrong, 0));
            }
        });
        CHECK.edge("state: no such what", () -> {
            SampleAnalyser x = plain(100);
            x.order(1, 0, false);
            for (int wrong : new int[] {-1, 7, MIN, MAX}) {
                CHECK.refusesArgument("state(0, " + wrong + ")", () -> x.state(0, wrong));
            }
            CHECK.takes("state(0, 0)", () -> x.state(0, 0));
            CHECK.takes("state(0, 6)", () -> x.state(0, 6));
        });
    }

    private static SampleAnalyser repeating() {
        SampleAnalyser x = plain(100);
        Setup.define(x, 0, 11, 5000, 12, Setup.REPEAT);
        x.seal(0);
        x.order(1, 0, false);
        Setup.lightOf(x, 9);
        return x;
    }

    private static void answersOfState() {
        CHECK.edge("reason (0 if it did not fail), cuvette and age (-1 if it does not run), value and flags "
                + "(0 if it is not released): waiting", () -> {
            SampleAnalyser x = plain(100);
            x.order(1, 0, false);
            dueState(x, 0, 0, 0, 0, -1, -1, 0, 0);
        });
        CHECK.edge("... running, at age 0 and at the last age", () -> {
            SampleAnalyser x = repeating();
            x.step();
            dueState(x, 0, 1, 0, 1, 0, 0, 0, 0);
            x.step();
            dueState(x, 0, 1, 0, 1, 0, 1, 0, 0);
        });
        CHECK.edge("... waiting again behind a judged run", () -> {
            SampleAnalyser x = repeating();
            x.rack(1, 2, 0, 10);
            int urgent = x.order(2, 0, true);
            CHECK.row("step()", new int[] {urgent, 0}, x::step);
            x.order(1, 0, true);
            x.order(1, 0, true);
            CHECK.row("step()", new int[] {2, 3}, x::step);
            dueState(x, 0, 0, 0, 1, -1, -1, 0, 0);
        });
        CHECK.edge("... in the second run", () -> {
            SampleAnalyser x = repeating();
            Setup.steps(x, 3);
            dueState(x, 0, 1, 0, 2, 1, 0, 0, 0);
        });
        CHECK.edge("... released", () -> {
            SampleAnalyser x = repeating();
            Setup.steps(x, 5);
            dueState(x, 0, 2, 0, 2, -1, -1, 9216, 2 + 8);
            x.took(1);
            dueState(x, 0, 2, 0, 2, -1, -1, 9216, 2 + 8);
        });
        CHECK.edge("... failed behind a judged run", () -> {
            SampleAnalyser x = plain(15);
            Setup.define(x, 0, 11, 5000, 12, Setup.REPEAT);
            x.seal(0);
            x.order(1, 0, false);
            Setup.lightOf(x, 9);
            Setup.steps(x, 3);
            dueState(x, 0, 3, 1, 1, -1, -1, 0, 0);
        });
        CHECK.edge("cuvette (3): also the tenth, number 9", () -> {
            SampleAnalyser x = tenBusy();
            for (int n = 0; n < 10; n++) {
                CHECK.due("state(" + n + ", 3)", x.state(n, 3), n);
                CHECK.due("state(" + n + ", 4)", x.state(n, 4), 9 - n);
            }
        });
    }
}
