/** Promises 12 (spoil) and 13 (step): clots and misses, and what becomes of their runs. */
public final class FaultTest {
    private static final Check CHECK = new Check();

    public static void main(String[] args) {
        clotOfAFirstRun();
        clotOfASecondRun();
        clotTwiceIsOne();
        clotFreesBookings();
        missOfAFirstRun();
        missOfASecondRun();
        missOfTheSecondReagent();
        missWaitsForAUse();
        missCountsAsGiven();
        missStartsAgainInTheSameStep();
        brokenRunIsTheFirst();
        dilutedRunBreaksOff();
        CHECK.end();
    }

    private static SampleAnalyser oneReagent(int age) {
        SampleAnalyser x = new SampleAnalyser();
        Setup.withReagent(x, 0, 2, 40, age);
        x.rack(0, 1, 0, 100);
        x.reagent(0, 2, 1000, 99);
        x.order(1, 0, false);
        return x;
    }

    private static void dueState(String when, SampleAnalyser x, int order, int... wants) {
        for (int what = 0; what < wants.length; what++) {
            CHECK.due("state(" + order + ", " + what + ") " + when, x.state(order, what), wants[what]);
        }
    }

    private static void clotOfAFirstRun() {
        SampleAnalyser x = oneReagent(1);
        x.spoil(0);
        CHECK.due("step() with a clot", x.step(), 0);
        CHECK.due("idle()", x.idle(), 0);
        dueState("behind the clot", x, 0, 0, 0, 1, -1, -1, 0, 0);
        CHECK.due("the slot's volume stays", x.volume(0, 0), 100);
        CHECK.due("nothing is reserved", x.volume(2, 0), 0);
        CHECK.due("no order in the cuvette", x.cuvette(0, 0), -1);
        CHECK.due("wash", x.cuvette(0, 1), 3);
        CHECK.due("nothing in the cuvette", x.cuvette(0, 2), 0);
        CHECK.due("step()", x.step(), 0);
        dueState("in the second run", x, 0, 1, 0, 2, 1, 0, 0, 0);
        CHECK.due("wash", x.cuvette(0, 1), 2);
        CHECK.due("sample taken", x.volume(0, 0), 90);
        Setup.steps(x, 3);
        dueState("released", x, 0, 2, 0, 2, -1, -1, 1, 8);
    }

    private static void clotOfASecondRun() {
        SampleAnalyser x = oneReagent(1);
        x.spoil(0);
        x.step();
        x.spoil(0);
        CHECK.due("step() with the second clot", x.step(), 0);
        dueState("behind the second clot", x, 0, 3, 3, 2, -1, -1, 0, 0);
        CHECK.due("wash", x.cuvette(1, 1), 3);
        CHECK.due("nothing is reserved", x.volume(2, 0), 0);
        CHECK.due("step()", x.step(), -1);
        CHECK.due("the slot's volume stays", x.volume(0, 0), 100);
        CHECK.due("removeRack", x.removeRack(0), 100);
    }

    private static void clotTwiceIsOne() {
        SampleAnalyser x = oneReagent(1);
        x.spoil(0);
        x.spoil(0);
        CHECK.row("step()", new int[] {0, 0}, x::step);
        CHECK.due("the second run runs", x.state(0, 0), 1);
    }

    private static void clotFreesBookings() {
        SampleAnalyser x = oneReagent(2);
        Setup.withReagent(x, 1, 3, 10, 1);
        x.reagent(1, 3, 100, 99);
        x.spoil(0);
        CHECK.due("step() with a clot", x.step(), 0);
        x.order(1, 1, true);
        CHECK.due("step(): the next but one is not booked any more", x.step(), 1);
    }

    private static void missOfAFirstRun() {
        SampleAnalyser x = oneReagent(1);
        x.spoil(1);
        CHECK.due("step()", x.step(), 0);
        CHECK.due("reserved", x.volume(2, 0), 40);
        CHECK.due("step() with the miss starts again", x.step(), 0);
        dueState("in the second run", x, 0, 1, 0, 2, 1, 0, 0, 0);
        CHECK.due("wash", x.cuvette(0, 1), 3);
        CHECK.due("nothing in the cuvette", x.cuvette(0, 2), 0);
        CHECK.due("nothing is taken", x.volume(1, 0), 1000);
        CHECK.due("reserved for the second run", x.volume(2, 0), 40);
        CHECK.due("samples taken", x.volume(0, 0), 80);
        x.step();
        CHECK.due("given", x.volume(1, 0), 960);
        Setup.steps(x, 2);
        dueState("released", x, 0, 2, 0, 2, -1, -1, 1, 8);
    }

    private static void missOfASecondRun() {
        SampleAnalyser x = oneReagent(1);
        x.spoil(1);
        Setup.steps(x, 2);
        x.spoil(1);
        CHECK.due("step() with the second miss", x.step(), -1);
        dueState("behind the second miss", x, 0, 3, 4, 2, -1, -1, 0, 0);
        CHECK.due("nothing is taken", x.volume(1, 0), 1000);
        CHECK.due("nothing is reserved", x.volume(2, 0), 0);
        CHECK.due("wash", x.cuvette(1, 1), 3);
    }

    private static void missOfTheSecondReagent() {
        SampleAnalyser x = new SampleAnalyser();
        Setup.define(x, 0, 0, 10, 1, 0, 2, 30, 3, 1, 4, 1, 5, 20, 6, 3, 7, 4, 8, 4, 11, 20000);
        Setup.curve(x, 0, 0, 0, 16384, 16384);
        x.seal(0);
        x.rack(0, 1, 0, 10);
        x.reagent(0, 0, 100, 99);
        x.reagent(1, 1, 100, 99);
        x.order(1, 0, false);
        Setup.steps(x, 2);
        x.spoil(1);
        x.step();
        CHECK.due("still running", x.state(0, 0), 1);
        CHECK.due("step() with the miss", x.step(), -1);
        CHECK.due("no sample for a second run", x.state(0, 1), 1);
        CHECK.due("the first one was taken", x.volume(1, 0), 70);
        CHECK.due("the second one was not", x.volume(1, 1), 100);
        CHECK.due("nothing is reserved", x.volume(2, 0) + x.volume(2, 1), 0);
    }

    private static void missWaitsForAUse() {
        SampleAnalyser x = new SampleAnalyser();
        x.spoil(1);
        x.spoil(1);
        Setup.steps(x, 5);
        Setup.withReagent(x, 0, 2, 40, 1);
        x.rack(0, 1, 0, 100);
        x.reagent(0, 2, 1000, 99);
        x.order(1, 0, false);
        CHECK.row("step()", new int[] {0, 0, -1}, x::step);
        CHECK.due("once", x.state(0, 0), 1);
        CHECK.due("runs", x.state(0, 2), 2);
    }

    private static void missCountsAsGiven() {
        SampleAnalyser x = oneReagent(1);
        x.forbid(2, 2);
        x.spoil(1);
        CHECK.due("step()", x.step(), 0);
        CHECK.due("step() with the miss: the next use would follow it at once", x.step(), -1);
        CHECK.due("it waits", x.state(0, 0), 0);
        CHECK.due("step() behind the rinse", x.step(), 0);
    }

    private static void missStartsAgainInTheSameStep() {
        SampleAnalyser x = new SampleAnalyser();
        Setup.define(x, 0, 0, 10, 1, 0, 2, 30, 3, 1, 4, 1, 5, 20, 6, 2, 7, 4, 8, 4, 11, 20000);
        Setup.curve(x, 0, 0, 0, 16384, 16384);
        x.seal(0);
        x.rack(0, 1, 0, 100);
        x.reagent(0, 0, 30, 99);
        x.reagent(1, 1, 20, 99);
        x.order(1, 0, false);
        x.step();
        x.spoil(1);
        // What the broken run had booked for the next step and what it had reserved must be free for this.
        CHECK.due("step() with the miss", x.step(), 0);
        CHECK.due("runs", x.state(0, 2), 2);
        Setup.steps(x, 2);
        CHECK.due("both given", x.cuvette(1, 2), 60);
        CHECK.due("first left", x.volume(1, 0), 0);
        CHECK.due("second left", x.volume(1, 1), 0);
    }

    private static void brokenRunIsTheFirst() {
        SampleAnalyser x = new SampleAnalyser();
        Setup.plain(x, 0);
        Setup.define(x, 0, 11, 5000, 12, 2);
        x.seal(0);
        x.rack(0, 1, 0, 100);
        x.order(1, 0, false);
        x.spoil(0);
        x.step();
        Setup.lightOf(x, 9);
        CHECK.due("step()", x.step(), 0);
        CHECK.due("it is not diluted", x.cuvette(1, 2), 10);
        Setup.steps(x, 2);
        dueState("HIGH, but not diluted again", x, 0, 2, 0, 2, -1, -1, 9216, 2 + 8);
    }

    private static void dilutedRunBreaksOff() {
        SampleAnalyser x = new SampleAnalyser();
        Setup.plain(x, 0);
        Setup.define(x, 0, 11, 5000, 12, 2);
        x.seal(0);
        x.rack(0, 1, 0, 100);
        x.order(1, 0, false);
        Setup.lightOf(x, 9);
        Setup.steps(x, 2);
        x.spoil(0);
        CHECK.due("step() with the diluted run", x.step(), 0);
        dueState("behind its clot", x, 0, 3, 3, 2, -1, -1, 0, 0);
        CHECK.due("sample", x.volume(0, 0), 90);
    }
}
