/** The edges of promise 12 (spoil) and of the FAULTS. */
public final class EdgesOfFaultsTest {
    private static final int MIN = Check.MIN;
    private static final int MAX = Check.MAX;
    private static final int WAITING = 0;
    private static final int RUNNING = 1;
    private static final int RELEASED = 2;
    private static final int FAILED = 3;
    private static final Check CHECK = new Check();

    public static void main(String[] args) {
        spoil();
        whichUse();
        clots();
        misses();
        firstAndSecondRuns();
        whatIsFreeAgain();
        startsAgain();
        CHECK.end();
    }

    /** Test 0: a sample of 10, kind 0, 30 of it at age 1, and kind 1, 20 of it at age 3; a reading at age 4. */
    private static SampleAnalyser prepared(int sampleVolume) {
        SampleAnalyser x = new SampleAnalyser();
        Setup.withReagents(x, 0, 0, 30, 1, 1, 20, 3);
        x.rack(0, 1, 0, sampleVolume);
        x.reagent(0, 0, 100, 99);
        x.reagent(1, 1, 100, 99);
        return x;
    }

    private static SampleAnalyser ordered(int sampleVolume) {
        SampleAnalyser x = prepared(sampleVolume);
        x.order(1, 0, false);
        return x;
    }

    private static void dueState(SampleAnalyser x, int order, int... wants) {
        for (int what = 0; what < wants.length; what++) {
            CHECK.due("state(" + order + ", " + what + ")", x.state(order, what), wants[what]);
        }
    }

    private static void dueVolumes(SampleAnalyser x, int slot, int first, int second, int reserved) {
        CHECK.due("volume(0, 0)", x.volume(0, 0), slot);
        CHECK.due("volume(1, 0)", x.volume(1, 0), first);
        CHECK.due("volume(1, 1)", x.volume(1, 1), second);
        CHECK.due("volume(2, 0) and volume(2, 1)", x.volume(2, 0) + x.volume(2, 1), reserved);
    }

    // ---- promise 12 ----

    private static void spoil() {
        CHECK.edge("spoil: no such arm", () -> {
            SampleAnalyser x = ordered(100);
            for (int wrong : new int[] {-1, 2, MIN, MAX}) {
                CHECK.refusesArgument("spoil(" + wrong + ")", () -> x.spoil(wrong));
            }
            Setup.steps(x, 6);
            dueState(x, 0, RELEASED, 0, 1);
        });
        CHECK.edge("the next taking of a sample (arm 0) fails", () -> {
            SampleAnalyser x = ordered(100);
            x.spoil(0);
            CHECK.due("step()", x.step(), 0);
            dueState(x, 0, WAITING, 0, 1, -1, -1, 0, 0);
        });
        CHECK.edge("the next use of the reagent arm (1) fails", () -> {
            SampleAnalyser x = ordered(10);
            x.spoil(1);
            CHECK.due("step()", x.step(), 0);
            dueState(x, 0, RUNNING, 0, 1, 0, 0, 0, 0);
            CHECK.due("step()", x.step(), -1);
            dueState(x, 0, FAILED, 1, 1, -1, -1, 0, 0);
        });
    }

    private static void whichUse() {
        CHECK.edge("spoil() twice ahead of one use is one: of samples", () -> {
            SampleAnalyser x = ordered(100);
            x.spoil(0);
            x.spoil(0);
            CHECK.row("step()", new int[] {0, 0}, x::step);
            dueState(x, 0, RUNNING, 0, 2);
        });
        CHECK.edge("spoil() twice ahead of one use is one: of reagents", () -> {
            SampleAnalyser x = ordered(100);
            x.spoil(1);
            x.spoil(1);
            CHECK.row("step()", new int[] {0, 0, -1, -1, -1, -1, -1}, x::step);
            dueState(x, 0, RELEASED, 0, 2, -1, -1, 1, 8);
        });
        CHECK.edge("spoil() again behind the use is another", () -> {
            SampleAnalyser x = ordered(100);
            x.spoil(0);
            x.step();
            x.spoil(0);
            x.step();
            dueState(x, 0, FAILED, 3, 2);
        });
        CHECK.edge("both arms at once", () -> {
            SampleAnalyser x = ordered(100);
            x.spoil(0);
            x.spoil(1);
            CHECK.row("step() with the clot, then the second run", new int[] {0, 0}, x::step);
            dueState(x, 0, RUNNING, 0, 2);
            CHECK.due("step() with the miss", x.step(), -1);
            dueState(x, 0, FAILED, 4, 2);
        });
        CHECK.edge("it waits for the next use, whenever that is: of samples", () -> {
            SampleAnalyser x = prepared(100);
            x.spoil(0);
            x.rack(1, 2, 0, 9);
            Setup.steps(x, 20);
            x.order(2, 0, false);
            x.order(3, 0, false);
            CHECK.due("step(): one fails, one waits, no sample is taken", x.step(), -1);
            x.order(1, 0, false);
            CHECK.due("step()", x.step(), 2);
            dueState(x, 2, WAITING, 0, 1);
        });
        CHECK.edge("it waits for the next use, whenever that is: of reagents", () -> {
            SampleAnalyser x = prepared(10);
            Setup.plain(x, 1);
            x.rack(1, 2, 0, 10);
            x.spoil(1);
            x.order(2, 1, false);
            Setup.steps(x, 20);
            dueState(x, 0, RELEASED, 0, 1);
            x.order(1, 0, false);
            CHECK.row("step()", new int[] {1, -1}, x::step);
            dueState(x, 1, FAILED, 1, 1);
        });
        CHECK.edge("the next use: of whichever run", () -> {
            SampleAnalyser x = ordered(20);
            x.order(1, 0, false);
            Setup.steps(x, 2);
            x.spoil(1);
            // The first run has had its first reagent; the next use is the first one of the second run.
            x.step();
            dueState(x, 0, RUNNING, 0, 1);
            dueState(x, 1, FAILED, 1, 1);
            Setup.steps(x, 3);
            dueState(x, 0, RELEASED, 0, 1);
        });
    }

    private static void clots() {
        CHECK.edge("a CLOT's order is what step() answers", () -> {
            SampleAnalyser x = ordered(100);
            x.order(1, 0, false);
            x.spoil(0);
            CHECK.due("step()", x.step(), 0);
            CHECK.due("idle()", x.idle(), 0);
            dueState(x, 1, WAITING, 0, 0);
        });
        CHECK.edge("... its run counts", () -> {
            SampleAnalyser x = ordered(100);
            x.spoil(0);
            x.step();
            CHECK.due("runs", x.state(0, 2), 1);
            x.step();
            CHECK.due("runs", x.state(0, 2), 2);
        });
        CHECK.edge("... the slot's volume stays", () -> {
            SampleAnalyser x = ordered(10);
            x.spoil(0);
            x.step();
            CHECK.due("volume(0, 0)", x.volume(0, 0), 10);
            CHECK.due("step()", x.step(), 0);
            CHECK.due("volume(0, 0)", x.volume(0, 0), 0);
        });
        CHECK.edge("... the cuvette is in the wash from this step on", () -> {
            SampleAnalyser x = ordered(100);
            x.spoil(0);
            int[] wash = {3, 2, 1, 0};
            for (int still : wash) {
                x.step();
                CHECK.due("cuvette(0, 1)", x.cuvette(0, 1), still);
                CHECK.due("cuvette(0, 0)", x.cuvette(0, 0), -1);
                CHECK.due("cuvette(0, 2)", x.cuvette(0, 2), 0);
            }
        });
        CHECK.edge("... bookings and positions are free", () -> {
            SampleAnalyser x = ordered(100);
            Setup.withReagent(x, 1, 2, 10, 2);
            x.reagent(2, 2, 10, 99);
            x.spoil(0);
            x.step();
            dueVolumes(x, 100, 100, 100, 0);
            x.order(1, 1, true);
            // Its reagent is due in step 4, which the second reagent of the clot's run had.
            CHECK.due("step()", x.step(), 1);
        });
        CHECK.edge("a CLOT makes the next taking of a sample fail: of a control, too", () -> {
            SampleAnalyser x = new SampleAnalyser();
            Setup.plain(x, 0);
            x.rack(0, 1, 1, 100);
            x.order(1, 0, false);
            x.spoil(0);
            CHECK.row("step()", new int[] {0, 0, -1, -1}, x::step);
            dueState(x, 0, RELEASED, 0, 2, -1, -1, 1, 8);
            CHECK.due("trend(0, 0)", x.trend(0, 0), 1);
            CHECK.refuses("trend(0, 1)", IndexOutOfBoundsException.class, () -> x.trend(0, 1));
        });
    }

    private static void misses() {
        CHECK.edge("a MISS: it is used all the same, but nothing is taken", () -> {
            SampleAnalyser x = ordered(10);
            x.spoil(1);
            Setup.steps(x, 2);
            dueVolumes(x, 0, 100, 100, 0);
        });
        CHECK.edge("a MISS of the second reagent: the first one is gone", () -> {
            SampleAnalyser x = ordered(10);
            Setup.steps(x, 3);
            dueVolumes(x, 0, 70, 100, 20);
            x.spoil(1);
            CHECK.due("step()", x.step(), -1);
            dueVolumes(x, 0, 70, 100, 0);
            dueState(x, 0, FAILED, 1, 1);
        });
        CHECK.edge("the run breaks off: it has no reading and no value", () -> {
            SampleAnalyser x = ordered(10);
            x.spoil(1);
            Setup.steps(x, 12);
            dueState(x, 0, FAILED, 1, 1, -1, -1, 0, 0);
            CHECK.due("took(0)", x.took(0), 0);
        });
        CHECK.edge("the run breaks off: at the age of the miss, not before", () -> {
            SampleAnalyser x = new SampleAnalyser();
            Setup.withReagent(x, 0, 0, 10, 11);
            x.rack(0, 1, 0, 10);
            x.reagent(0, 0, 10, 99);
            x.order(1, 0, false);
            x.spoil(1);
            Setup.steps(x, 11);
            dueState(x, 0, RUNNING, 0, 1, 0, 10);
            x.step();
            dueState(x, 0, FAILED, 1, 1, -1, -1);
            CHECK.due("cuvette(0, 1)", x.cuvette(0, 1), 3);
        });
        CHECK.edge("the run breaks off: others run on", () -> {
            SampleAnalyser x = ordered(20);
            x.order(1, 0, false);
            CHECK.row("step()", new int[] {0, 1, -1}, x::step);
            x.spoil(1);
            // Steps 4 and 5 are the ones of the second reagents.
            x.step();
            dueState(x, 0, FAILED, 1, 1);
            CHECK.due("cuvette(1, 2)", x.cuvette(1, 2), 40);
            x.step();
            CHECK.due("cuvette(1, 2)", x.cuvette(1, 2), 60);
            Setup.steps(x, 2);
            dueState(x, 1, RELEASED, 0, 1);
        });
    }

    private static void firstAndSecondRuns() {
        CHECK.edge("its order waits again if that was its first run: of a clot", () -> {
            SampleAnalyser x = ordered(100);
            x.spoil(0);
            x.step();
            dueState(x, 0, WAITING, 0, 1, -1, -1, 0, 0);
        });
        CHECK.edge("... else it FAILED (3 clot", () -> {
            SampleAnalyser x = ordered(100);
            x.spoil(0);
            x.step();
            x.spoil(0);
            CHECK.due("step()", x.step(), 0);
            dueState(x, 0, FAILED, 3, 2, -1, -1, 0, 0);
            dueVolumes(x, 100, 100, 100, 0);
            CHECK.due("step()", x.step(), -1);
        });
        CHECK.edge("... 4 miss)", () -> {
            SampleAnalyser x = ordered(100);
            x.spoil(1);
            Setup.steps(x, 2);
            dueState(x, 0, RUNNING, 0, 2, 1, 0, 0, 0);
            x.spoil(1);
            CHECK.due("step()", x.step(), -1);
            dueState(x, 0, FAILED, 4, 2, -1, -1, 0, 0);
            dueVolumes(x, 80, 100, 100, 0);
        });
        CHECK.edge("FAILED with the reason of the second run: a clot behind a miss", () -> {
            SampleAnalyser x = ordered(100);
            x.spoil(1);
            x.step();
            x.spoil(0);
            CHECK.due("step() with both", x.step(), 0);
            dueState(x, 0, FAILED, 3, 2, -1, -1, 0, 0);
        });
        CHECK.edge("a second run is one behind another that was judged, too: it breaks off and FAILED", () -> {
            SampleAnalyser x = prepared(100);
            Setup.define(x, 0, 11, 5000, 12, Setup.REPEAT);
            x.seal(0);
            x.order(1, 0, false);
            Setup.lightOf(x, 9);
            Setup.steps(x, 5);
            x.spoil(0);
            CHECK.due("step() with the repeat", x.step(), 0);
            dueState(x, 0, FAILED, 3, 2, -1, -1, 0, 0);
            CHECK.due("took(0)", x.took(0), 0);
        });
        CHECK.edge("a second run is one behind another that was started, also if that broke off", () -> {
            SampleAnalyser x = prepared(100);
            Setup.define(x, 0, 11, 5000, 12, Setup.REPEAT);
            x.seal(0);
            x.order(1, 0, false);
            Setup.lightOf(x, 9);
            x.spoil(0);
            Setup.steps(x, 7);
            dueState(x, 0, RELEASED, 0, 2, -1, -1, 9216, 2 + 8);
        });
        CHECK.edge("behind one that broke off the next run is not diluted", () -> {
            SampleAnalyser x = prepared(100);
            Setup.define(x, 0, 11, 5000, 12, Setup.DILUTE);
            x.seal(0);
            x.order(1, 0, false);
            Setup.lightOf(x, 9);
            x.spoil(0);
            Setup.steps(x, 2);
            CHECK.due("cuvette(1, 2)", x.cuvette(1, 2), 10);
            Setup.steps(x, 5);
            dueState(x, 0, RELEASED, 0, 2, -1, -1, 9216, 2 + 8);
        });
        CHECK.edge("a diluted run that breaks off FAILED", () -> {
            SampleAnalyser x = prepared(100);
            Setup.define(x, 0, 11, 5000, 12, Setup.DILUTE);
            x.seal(0);
            x.order(1, 0, false);
            Setup.lightOf(x, 9);
            CHECK.row("step()", new int[] {0, -1, -1, -1, -1, 0}, x::step);
            x.spoil(1);
            x.step();
            dueState(x, 0, FAILED, 4, 2, -1, -1, 0, 0);
            CHECK.due("volume(0, 0)", x.volume(0, 0), 85);
        });
    }

    private static void whatIsFreeAgain() {
        CHECK.edge("what was reserved and not taken is free again: in the same step, for another order", () -> {
            SampleAnalyser x = prepared(10);
            x.reagent(0, 0, 30, 99);
            x.reagent(1, 1, 20, 99);
            x.rack(1, 2, 0, 10);
            x.order(1, 0, false);
            x.spoil(1);
            x.step();
            x.order(2, 0, false);
            CHECK.due("step() with the miss", x.step(), 1);
            CHECK.due("volume(2, 0)", x.volume(2, 0), 30);
            CHECK.due("volume(2, 1)", x.volume(2, 1), 20);
        });
        CHECK.edge("what was reserved and not taken is free again: what another run has reserved stays so", () -> {
            SampleAnalyser x = ordered(20);
            x.order(1, 0, false);
            Setup.steps(x, 2);
            CHECK.due("volume(2, 0)", x.volume(2, 0), 30);
            CHECK.due("volume(2, 1)", x.volume(2, 1), 40);
            x.spoil(1);
            x.step();
            dueState(x, 1, FAILED, 1, 1);
            CHECK.due("volume(2, 0)", x.volume(2, 0), 0);
            CHECK.due("volume(2, 1)", x.volume(2, 1), 20);
        });
        CHECK.edge("what was reserved and not taken is free again: in the first position and in the last", () -> {
            for (int arm = 0; arm < 2; arm++) {
                SampleAnalyser x = new SampleAnalyser();
                Setup.withReagents(x, 0, 0, 30, 1, 1, 20, 3);
                x.rack(0, 1, 0, 10);
                x.reagent(7, 0, 100, 99);
                x.reagent(0, 1, 100, 99);
                x.order(1, 0, false);
                x.spoil(arm);
                Setup.steps(x, arm + 1);
                CHECK.due("volume(2, 7)", x.volume(2, 7), 0);
                CHECK.due("volume(2, 0)", x.volume(2, 0), 0);
            }
        });
        CHECK.edge("what was reserved and not taken is free again: of two of one kind", () -> {
            SampleAnalyser x = new SampleAnalyser();
            Setup.withReagents(x, 0, 4, 30, 1, 4, 20, 2);
            x.rack(0, 1, 0, 10);
            x.reagent(0, 4, 50, 99);
            x.order(1, 0, false);
            Setup.steps(x, 2);
            CHECK.due("volume(2, 0)", x.volume(2, 0), 20);
            x.spoil(1);
            x.step();
            CHECK.due("volume(2, 0)", x.volume(2, 0), 0);
            CHECK.due("volume(1, 0)", x.volume(1, 0), 20);
        });
    }

    private static void startsAgain() {
        CHECK.edge("what breaks off may start again in the same step", () -> {
            SampleAnalyser x = ordered(100);
            x.spoil(1);
            x.step();
            CHECK.due("step() with the miss", x.step(), 0);
            dueState(x, 0, RUNNING, 0, 2, 1, 0, 0, 0);
            CHECK.due("cuvette(0, 1)", x.cuvette(0, 1), 3);
            dueVolumes(x, 80, 100, 100, 50);
        });
        CHECK.edge("... if it is the first that can start", () -> {
            SampleAnalyser x = ordered(100);
            x.spoil(1);
            x.step();
            x.order(1, 0, true);
            CHECK.due("step() with the miss and an urgent one", x.step(), 1);
            dueState(x, 0, WAITING, 0, 1, -1, -1, 0, 0);
        });
        CHECK.edge("... with its own bookings gone", () -> {
            SampleAnalyser x = new SampleAnalyser();
            Setup.withReagents(x, 0, 0, 30, 1, 1, 20, 2);
            x.rack(0, 1, 0, 100);
            x.reagent(0, 0, 30, 99);
            x.reagent(1, 1, 20, 99);
            x.order(1, 0, false);
            x.spoil(1);
            x.step();
            CHECK.due("step() with the miss", x.step(), 0);
            Setup.steps(x, 2);
            CHECK.due("cuvette(1, 2)", x.cuvette(1, 2), 60);
        });
        CHECK.edge("... if a cuvette is clean: its own is not", () -> {
            SampleAnalyser x = new SampleAnalyser();
            Setup.withReagent(x, 0, 0, 10, 11);
            x.rack(0, 1, 0, 1000);
            x.reagent(0, 0, 1000, 99);
            for (int n = 0; n < 10; n++) {
                x.order(1, 0, false);
            }
            x.spoil(1);
            Setup.steps(x, 11);
            CHECK.due("step() with the miss", x.step(), -1);
            dueState(x, 0, WAITING, 0, 1);
            CHECK.row("step() in the wash", new int[] {-1, -1}, x::step);
            CHECK.due("step() when it is clean", x.step(), 0);
            dueState(x, 0, RUNNING, 0, 2, 0);
        });
    }
}
