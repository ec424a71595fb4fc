import java.util.NoSuchElementException;

/** The edges of promises 5 (rack), 6 (removeRack), 7 (reagent), 10 (clock) and 17 (volume). */
public final class EdgesOfPlacesTest {
    private static final int MIN = Check.MIN;
    private static final int MAX = Check.MAX;
    private static final Class<NoSuchElementException> ELEMENT = NoSuchElementException.class;
    private static final Check CHECK = new Check();

    public static void main(String[] args) {
        argumentsOfRack();
        rack();
        removeRack();
        argumentsOfReagent();
        reagent();
        reserved();
        clock();
        volume();
        CHECK.end();
    }

    // ---- promise 5 ----

    private static void argumentsOfRack() {
        CHECK.edge("SLOTS 0 .. 5", () -> {
            SampleAnalyser x = new SampleAnalyser();
            for (int wrong : new int[] {-1, 6, MIN, MAX}) {
                CHECK.refusesArgument("rack(" + wrong + ")", () -> x.rack(wrong, 1, 0, 1));
            }
            for (int slot = 0; slot < 6; slot++) {
                x.rack(slot, slot + 1, 0, 10 * slot);
                CHECK.due("volume(0, " + slot + ")", x.volume(0, slot), 10 * slot);
            }
        });
        CHECK.edge("a CODE (1 .. 999999)", () -> {
            SampleAnalyser x = new SampleAnalyser();
            for (int wrong : new int[] {-1, 0, 1000000, MIN, MAX}) {
                CHECK.refusesArgument("rack of code " + wrong, () -> x.rack(0, wrong, 0, 1));
            }
            CHECK.takes("rack of code 1", () -> x.rack(0, 1, 0, 1));
            CHECK.takes("rack of code 999999", () -> x.rack(1, 999999, 0, 1));
        });
        CHECK.edge("a kind (0 sample, 1 control)", () -> {
            SampleAnalyser x = new SampleAnalyser();
            for (int wrong : new int[] {-1, 2, MIN, MAX}) {
                CHECK.refusesArgument("rack of kind " + wrong, () -> x.rack(0, 1, wrong, 1));
            }
            Setup.plain(x, 0);
            x.rack(0, 1, 0, 10);
            x.rack(1, 2, 1, 10);
            x.order(1, 0, false);
            Setup.steps(x, 3);
            CHECK.refuses("the history behind kind 0", IndexOutOfBoundsException.class, () -> x.trend(0, 0));
            x.order(2, 0, false);
            Setup.steps(x, 3);
            CHECK.due("the history behind kind 1", x.trend(0, 0), 1);
        });
        CHECK.edge("rack: volume (0 .. 100000)", () -> {
            SampleAnalyser x = new SampleAnalyser();
            for (int wrong : new int[] {-1, 100001, MIN, MAX}) {
                CHECK.refusesArgument("rack of volume " + wrong, () -> x.rack(0, 1, 0, wrong));
            }
            x.rack(0, 1, 0, 0);
            x.rack(1, 2, 0, 100000);
            CHECK.due("volume(0, 0)", x.volume(0, 0), 0);
            CHECK.due("volume(0, 1)", x.volume(0, 1), 100000);
        });
    }

    private static void rack() {
        CHECK.edge("rack: IllegalStateException if the slot is taken", () -> {
            SampleAnalyser x = new SampleAnalyser();
            x.rack(5, 1, 0, 10);
            CHECK.refusesState("another code", () -> x.rack(5, 2, 1, 20));
            CHECK.refusesState("the same code", () -> x.rack(5, 1, 0, 20));
            CHECK.due("volume(0, 5)", x.volume(0, 5), 10);
            CHECK.takes("code 2, which was refused, in another slot", () -> x.rack(4, 2, 0, 20));
        });
        CHECK.edge("rack: a slot is taken also by a volume of 0", () -> {
            SampleAnalyser x = new SampleAnalyser();
            x.rack(0, 1, 0, 0);
            CHECK.refusesState("rack(0, 2, 0, 5)", () -> x.rack(0, 2, 0, 5));
            CHECK.refusesState("rack(1, 1, 0, 5)", () -> x.rack(1, 1, 0, 5));
        });
        CHECK.edge("... or the code in another one", () -> {
            for (int at : new int[] {0, 5}) {
                SampleAnalyser x = new SampleAnalyser();
                x.rack(at, 7, 0, 10);
                CHECK.refusesState("the code of slot " + at, () -> x.rack(2, 7, 0, 20));
                CHECK.refuses("volume(0, 2)", ELEMENT, () -> x.volume(0, 2));
                CHECK.takes("another code", () -> x.rack(2, 8, 0, 20));
            }
        });
        CHECK.edge("rack: all slots taken", () -> {
            SampleAnalyser x = new SampleAnalyser();
            for (int slot = 0; slot < 6; slot++) {
                x.rack(slot, slot + 1, 0, 1);
            }
            for (int slot = 0; slot < 6; slot++) {
                int s = slot;
                CHECK.refusesState("rack(" + s + ", 7)", () -> x.rack(s, 7, 0, 1));
            }
        });
        CHECK.edge("rack: IllegalArgumentException also if the slot is taken or the code in another one", () -> {
            SampleAnalyser x = new SampleAnalyser();
            x.rack(0, 1, 0, 10);
            CHECK.refusesArgument("volume 100001, slot 0", () -> x.rack(0, 2, 0, 100001));
            CHECK.refusesArgument("kind 2, slot 0", () -> x.rack(0, 2, 2, 1));
            CHECK.refusesArgument("code 0, slot 0", () -> x.rack(0, 0, 0, 1));
            CHECK.refusesArgument("kind -1, code 1", () -> x.rack(1, 1, -1, 1));
        });
    }

    // ---- promise 6 ----

    private static void removeRack() {
        CHECK.edge("removeRack: no such slot", () -> {
            SampleAnalyser x = new SampleAnalyser();
            for (int wrong : new int[] {-1, 6, MIN, MAX}) {
                CHECK.refusesArgument("removeRack(" + wrong + ")", () -> x.removeRack(wrong));
            }
            x.rack(0, 1, 0, 11);
            x.rack(5, 2, 0, 12);
            CHECK.due("removeRack(0)", x.removeRack(0), 11);
            CHECK.due("removeRack(5)", x.removeRack(5), 12);
        });
        CHECK.edge("removeRack: NoSuchElementException if it is empty", () -> {
            SampleAnalyser x = new SampleAnalyser();
            for (int slot = 0; slot < 6; slot++) {
                int s = slot;
                CHECK.refuses("removeRack(" + s + ")", ELEMENT, () -> x.removeRack(s));
            }
            x.rack(3, 1, 0, 11);
            CHECK.refuses("removeRack(2)", ELEMENT, () -> x.removeRack(2));
            x.removeRack(3);
            CHECK.refuses("removeRack(3) a second time", ELEMENT, () -> x.removeRack(3));
        });
        CHECK.edge("takes it out: its volume, also 0", () -> {
            SampleAnalyser x = new SampleAnalyser();
            Setup.plain(x, 0);
            x.rack(0, 1, 0, 10);
            x.order(1, 0, false);
            Setup.steps(x, 3);
            CHECK.due("removeRack(0) of what was all taken", x.removeRack(0), 0);
            CHECK.refuses("volume(0, 0)", ELEMENT, () -> x.volume(0, 0));
        });
        CHECK.edge("takes it out: slot and code are free then", () -> {
            SampleAnalyser x = new SampleAnalyser();
            x.rack(0, 1, 0, 10);
            x.rack(1, 2, 0, 20);
            x.removeRack(0);
            CHECK.due("volume(0, 1)", x.volume(0, 1), 20);
            CHECK.takes("the code in another slot", () -> x.rack(2, 1, 0, 30));
            CHECK.takes("another code in the slot", () -> x.rack(0, 3, 0, 40));
            CHECK.due("volume(0, 0)", x.volume(0, 0), 40);
        });
        CHECK.edge("removeRack: IllegalStateException if an order with its code is waiting", () -> {
            SampleAnalyser x = new SampleAnalyser();
            Setup.withReagent(x, 0, 0, 10, 1);
            x.order(1, 0, false);
            x.rack(4, 1, 0, 100);
            CHECK.refusesState("removeRack(4)", () -> x.removeRack(4));
            CHECK.due("volume(0, 4)", x.volume(0, 4), 100);
            x.step();
            CHECK.due("failed", x.state(0, 0), 3);
            CHECK.due("removeRack(4) when it has failed", x.removeRack(4), 100);
        });
        CHECK.edge("removeRack: ... or running", () -> {
            SampleAnalyser x = new SampleAnalyser();
            Setup.plain(x, 0);
            x.rack(0, 1, 0, 100);
            x.order(1, 0, false);
            x.step();
            CHECK.refusesState("removeRack(0) at age 0", () -> x.removeRack(0));
            x.step();
            CHECK.refusesState("removeRack(0) at the last age", () -> x.removeRack(0));
            x.step();
            CHECK.due("removeRack(0) when it is released", x.removeRack(0), 90);
        });
        CHECK.edge("removeRack: an order that waits again is waiting", () -> {
            SampleAnalyser x = new SampleAnalyser();
            Setup.plain(x, 0);
            x.rack(0, 1, 0, 100);
            x.order(1, 0, false);
            x.spoil(0);
            x.step();
            CHECK.refusesState("removeRack(0) behind a clot", () -> x.removeRack(0));
        });
        CHECK.edge("removeRack: an order with another code does not matter", () -> {
            SampleAnalyser x = new SampleAnalyser();
            Setup.plain(x, 0);
            x.rack(0, 1, 0, 100);
            x.rack(1, 2, 0, 50);
            x.order(1, 0, false);
            x.order(999999, 0, false);
            CHECK.due("removeRack(1)", x.removeRack(1), 50);
            CHECK.refusesState("removeRack(0)", () -> x.removeRack(0));
        });
        CHECK.edge("removeRack: with all 40 orders", () -> {
            SampleAnalyser x = new SampleAnalyser();
            Setup.plain(x, 0);
            x.rack(0, 1, 0, 7);
            x.rack(1, 2, 0, 100);
            for (int n = 0; n < 40; n++) {
                x.order(n == 39 ? 2 : 3, 0, false);
            }
            CHECK.due("removeRack(0), which none of them is for", x.removeRack(0), 7);
            CHECK.refusesState("removeRack(1), which the last one is for", () -> x.removeRack(1));
        });
        CHECK.edge("removeRack: one of several orders with its code is enough", () -> {
            SampleAnalyser x = new SampleAnalyser();
            Setup.plain(x, 0);
            Setup.read(x, 1, 5);
            x.rack(0, 1, 0, 100);
            x.order(1, 0, false);
            x.order(1, 1, false);
            Setup.steps(x, 7);
            CHECK.due("the first one is released", x.state(0, 0), 2);
            CHECK.refusesState("removeRack(0)", () -> x.removeRack(0));
            x.step();
            CHECK.due("removeRack(0) when both are", x.removeRack(0), 80);
        });
    }

    // ---- promise 7 ----

    private static void argumentsOfReagent() {
        CHECK.edge("REAGENT POSITIONS 0 .. 7", () -> {
            SampleAnalyser x = new SampleAnalyser();
            for (int wrong : new int[] {-1, 8, MIN, MAX}) {
                CHECK.refusesArgument("reagent(" + wrong + ")", () -> x.reagent(wrong, 0, 1, 1));
            }
            for (int position = 0; position < 8; position++) {
                x.reagent(position, 0, 10 * position, 1);
                CHECK.due("volume(1, " + position + ")", x.volume(1, position), 10 * position);
            }
        });
        CHECK.edge("reagent: no such kind (0 .. 5)", () -> {
            SampleAnalyser x = new SampleAnalyser();
            for (int wrong : new int[] {-1, 6, MIN, MAX}) {
                CHECK.refusesArgument("reagent of kind " + wrong, () -> x.reagent(0, wrong, 1, 1));
            }
            CHECK.takes("reagent of kind 0", () -> x.reagent(0, 0, 1, 1));
            CHECK.takes("reagent of kind 5", () -> x.reagent(0, 5, 1, 1));
        });
        CHECK.edge("reagent: a volume (0 .. 100000)", () -> {
            SampleAnalyser x = new SampleAnalyser();
            for (int wrong : new int[] {-1, 100001, MIN, MAX}) {
                CHECK.refusesArgument("reagent of volume " + wrong, () -> x.reagent(0, 0, wrong, 1));
            }
            x.reagent(0, 0, 0, 1);
            CHECK.due("volume(1, 0)", x.volume(1, 0), 0);
            x.reagent(0, 0, 100000, 1);
            CHECK.due("volume(1, 0)", x.volume(1, 0), 100000);
        });
        CHECK.edge("reagent: ... or the minute is below 0", () -> {
            SampleAnalyser x = new SampleAnalyser();
            CHECK.refusesArgument("-1", () -> x.reagent(0, 0, 1, -1));
            CHECK.refusesArgument("the least", () -> x.reagent(0, 0, 1, MIN));
            CHECK.refuses("volume(1, 0)", ELEMENT, () -> x.volume(1, 0));
            CHECK.takes("0", () -> x.reagent(0, 0, 1, 0));
            CHECK.takes("the greatest", () -> x.reagent(0, 0, 1, MAX));
        });
        CHECK.edge("reagent: a minute that is over is taken, too", () -> {
            SampleAnalyser x = new SampleAnalyser();
            x.clock(100);
            x.reagent(0, 0, 5, 99);
            CHECK.due("volume(1, 0)", x.volume(1, 0), 5);
        });
    }

    /** Test 0 with a reagent of kind 2, 40 of it at an age, a rack and an order; no position is filled. */
    private static SampleAnalyser wanting(int age) {
        SampleAnalyser x = new SampleAnalyser();
        Setup.withReagent(x, 0, 2, 40, age);
        x.rack(0, 1, 0, 100);
        x.order(1, 0, false);
        return x;
    }

    private static void reagent() {
        CHECK.edge("in place of what is there: its kind", () -> {
            SampleAnalyser x = wanting(1);
            x.reagent(0, 2, 100, 9);
            x.reagent(0, 3, 100, 9);
            CHECK.due("step()", x.step(), -1);
            CHECK.due("reason", x.state(0, 1), 2);
        });
        CHECK.edge("in place of what is there: its volume", () -> {
            SampleAnalyser x = wanting(1);
            x.reagent(0, 2, 100, 9);
            x.reagent(0, 2, 30, 9);
            CHECK.due("volume(1, 0)", x.volume(1, 0), 30);
            CHECK.due("step()", x.step(), -1);
        });
        CHECK.edge("in place of what is there: its minute", () -> {
            SampleAnalyser x = wanting(1);
            x.reagent(0, 2, 100, 0);
            x.reagent(0, 2, 100, 1);
            CHECK.due("step()", x.step(), 0);
        });
        CHECK.edge("a reagent comes into a position: into no other", () -> {
            SampleAnalyser x = new SampleAnalyser();
            x.reagent(3, 2, 100, 9);
            CHECK.refuses("volume(1, 2)", ELEMENT, () -> x.volume(1, 2));
            CHECK.refuses("volume(1, 4)", ELEMENT, () -> x.volume(1, 4));
        });
    }

    private static void reserved() {
        CHECK.edge("reagent: IllegalStateException if something there is reserved", () -> {
            SampleAnalyser x = wanting(2);
            x.reagent(7, 2, 100, 9);
            CHECK.takes("ahead of the start", () -> x.reagent(7, 2, 90, 9));
            x.step();
            CHECK.refusesState("at age 0", () -> x.reagent(7, 2, 50, 9));
            CHECK.refusesArgument("of no such kind", () -> x.reagent(7, 6, 50, 9));
            CHECK.takes("into another position", () -> x.reagent(6, 2, 50, 9));
            x.step();
            CHECK.refusesState("at age 1", () -> x.reagent(7, 2, 50, 9));
            CHECK.due("volume(1, 7)", x.volume(1, 7), 90);
            CHECK.due("volume(2, 7)", x.volume(2, 7), 40);
            x.step();
            CHECK.takes("when it is given", () -> x.reagent(7, 2, 50, 9));
        });
        CHECK.edge("reagent: ... be it 1 of it", () -> {
            SampleAnalyser x = new SampleAnalyser();
            Setup.withReagent(x, 0, 2, 1, 1);
            x.rack(0, 1, 0, 100);
            x.reagent(0, 2, 100, 9);
            x.order(1, 0, false);
            x.step();
            CHECK.refusesState("reagent", () -> x.reagent(0, 2, 50, 9));
        });
        CHECK.edge("reagent: ... for one of two runs", () -> {
            SampleAnalyser x = wanting(1);
            x.reagent(0, 2, 100, 9);
            x.order(1, 0, false);
            Setup.steps(x, 2);
            CHECK.due("volume(2, 0)", x.volume(2, 0), 40);
            CHECK.refusesState("with the second one's", () -> x.reagent(0, 2, 50, 9));
            x.step();
            CHECK.takes("with none", () -> x.reagent(0, 2, 50, 9));
        });
        CHECK.edge("reagent: free again behind a clot and a miss", () -> {
            SampleAnalyser x = wanting(1);
            x.reagent(0, 2, 100, 9);
            x.spoil(0);
            x.step();
            CHECK.takes("behind the clot", () -> x.reagent(0, 2, 90, 9));
            x.step();
            CHECK.refusesState("in the second run", () -> x.reagent(0, 2, 50, 9));
            x.spoil(1);
            x.step();
            CHECK.due("volume(1, 0)", x.volume(1, 0), 90);
            CHECK.takes("behind the miss", () -> x.reagent(0, 2, 80, 9));
        });
    }

    // ---- promise 10 ----

    private static void clock() {
        CHECK.edge("clock: IllegalArgumentException if it is before what it is", () -> {
            SampleAnalyser x = new SampleAnalyser();
            CHECK.refusesArgument("clock(-1)", () -> x.clock(-1));
            CHECK.refusesArgument("clock(least)", () -> x.clock(MIN));
            CHECK.takes("clock(0)", () -> x.clock(0));
            CHECK.takes("clock(7)", () -> x.clock(7));
            CHECK.refusesArgument("clock(6)", () -> x.clock(6));
            CHECK.refusesArgument("clock(0)", () -> x.clock(0));
            CHECK.takes("clock(7)", () -> x.clock(7));
            CHECK.takes("clock(8)", () -> x.clock(8));
        });
        CHECK.edge("clock: to the greatest minute", () -> {
            SampleAnalyser x = new SampleAnalyser();
            CHECK.takes("clock(greatest)", () -> x.clock(MAX));
            CHECK.refusesArgument("clock(greatest - 1)", () -> x.clock(MAX - 1));
            CHECK.refusesArgument("clock(least)", () -> x.clock(MIN));
            CHECK.takes("clock(greatest) again", () -> x.clock(MAX));
        });
        CHECK.edge("the clock goes on: steps don't move it", () -> {
            SampleAnalyser x = new SampleAnalyser();
            Setup.steps(x, 20);
            CHECK.takes("clock(0)", () -> x.clock(0));
        });
        CHECK.edge("the clock goes on: it moves no disc", () -> {
            SampleAnalyser x = new SampleAnalyser();
            Setup.plain(x, 0);
            x.rack(0, 1, 0, 10);
            x.order(1, 0, false);
            x.step();
            x.clock(1000);
            CHECK.due("age", x.state(0, 4), 0);
            CHECK.due("idle()", x.idle(), 0);
        });
        CHECK.edge("a minute at which it EXPIRES (from then on it is not used)", () -> {
            CHECK.due("one minute before", stepAt(9, 10), 0);
            CHECK.due("at it", stepAt(10, 10), -1);
            CHECK.due("one minute behind", stepAt(11, 10), -1);
            CHECK.due("minute 0 of 0", stepAt(0, 0), -1);
            CHECK.due("minute 0 of 1", stepAt(0, 1), 0);
            CHECK.due("the last but one of the greatest", stepAt(MAX - 1, MAX), 0);
            CHECK.due("the greatest of the greatest", stepAt(MAX, MAX), -1);
        });
    }

    private static int stepAt(int minute, int expires) {
        SampleAnalyser x = wanting(1);
        x.reagent(0, 2, 100, expires);
        x.clock(minute);
        int started = x.step();
        CHECK.due("reason", x.state(0, 1), started == 0 ? 0 : 2);
        return started;
    }

    // ---- promise 17 ----

    private static void volume() {
        CHECK.edge("volume: no such kind", () -> {
            SampleAnalyser x = new SampleAnalyser();
            x.rack(0, 1, 0, 10);
            x.reagent(0, 0, 20, 9);
            for (int wrong : new int[] {-1, 3, MIN, MAX}) {
                CHECK.refusesArgument("volume(" + wrong + ", 0)", () -> x.volume(wrong, 0));
            }
            CHECK.due("volume(0, 0)", x.volume(0, 0), 10);
            CHECK.due("volume(1, 0)", x.volume(1, 0), 20);
            CHECK.due("volume(2, 0)", x.volume(2, 0), 0);
        });
        CHECK.edge("volume: no such slot", () -> {
            SampleAnalyser x = new SampleAnalyser();
            x.rack(5, 1, 0, 10);
            CHECK.due("volume(0, 5)", x.volume(0, 5), 10);
            for (int wrong : new int[] {-1, 6, 7, MIN, MAX}) {
                CHECK.refusesArgument("volume(0, " + wrong + ")", () -> x.volume(0, wrong));
            }
        });
        CHECK.edge("volume: no such position", () -> {
            SampleAnalyser x = new SampleAnalyser();
            x.reagent(7, 0, 20, 9);
            CHECK.due("volume(1, 7)", x.volume(1, 7), 20);
            CHECK.due("volume(2, 7)", x.volume(2, 7), 0);
            for (int wrong : new int[] {-1, 8, MIN, MAX}) {
                CHECK.refusesArgument("volume(1, " + wrong + ")", () -> x.volume(1, wrong));
                CHECK.refusesArgument("volume(2, " + wrong + ")", () -> x.volume(2, wrong));
            }
        });
        CHECK.edge("volume: NoSuchElementException if it is empty, of slots", () -> {
            SampleAnalyser x = new SampleAnalyser();
            for (int slot = 0; slot < 6; slot++) {
                int s = slot;
                CHECK.refuses("volume(0, " + s + ")", ELEMENT, () -> x.volume(0, s));
            }
            x.rack(0, 1, 0, 0);
            CHECK.due("volume(0, 0) of a rack with nothing", x.volume(0, 0), 0);
            x.removeRack(0);
            CHECK.refuses("volume(0, 0) when it is out", ELEMENT, () -> x.volume(0, 0));
        });
        CHECK.edge("(a position: none was put there)", () -> {
            SampleAnalyser x = new SampleAnalyser();
            for (int position = 0; position < 8; position++) {
                int p = position;
                CHECK.refuses("volume(1, " + p + ")", ELEMENT, () -> x.volume(1, p));
                CHECK.refuses("volume(2, " + p + ")", ELEMENT, () -> x.volume(2, p));
            }
            x.reagent(0, 0, 0, 0);
            CHECK.due("volume(1, 0) of nothing, expired", x.volume(1, 0), 0);
            CHECK.due("volume(2, 0)", x.volume(2, 0), 0);
        });
        CHECK.edge("volume: left at 0 when all is given", () -> {
            SampleAnalyser x = wanting(1);
            x.reagent(0, 2, 40, 9);
            x.step();
            CHECK.due("volume(1, 0) reserved", x.volume(1, 0), 40);
            CHECK.due("volume(2, 0) reserved", x.volume(2, 0), 40);
            x.step();
            CHECK.due("volume(1, 0) given", x.volume(1, 0), 0);
            CHECK.due("volume(2, 0) given", x.volume(2, 0), 0);
        });
    }
}
