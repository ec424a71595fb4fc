/** Promises 13 (step), 14 (idle) and 16 (cuvette): the disc, the wash, what is reserved, and the arm's bookings. */
public final class StepTest {
    private static final int MIN = Integer.MIN_VALUE;
    private static final int MAX = Integer.MAX_VALUE;
    private static final Check CHECK = new Check();

    public static void main(String[] args) {
        wrongCuvettes();
        disc();
        leastCleanCuvette();
        contents();
        readingsOfTheirAges();
        usedAgain();
        lastCuvetteAndPosition();
        volumesOfNoReagent();
        whichPosition();
        twoReagentsOfOneKind();
        secondReagentShort();
        takenSteps();
        forbiddenAmongBooked();
        forbiddenWithinARun();
        rinseIsEnough();
        forbiddenBehindWhatWasGiven();
        forbiddenBehindTheirBooking();
        runsWithoutReagentsLookAtBookings();
        oneThatIsBlockedLetsOthersStart();
        endedRunsByNumber();
        CHECK.end();
    }

    private static void wrongCuvettes() {
        SampleAnalyser x = new SampleAnalyser();
        for (int wrong : new int[] {-1, 10, MIN, MAX}) {
            CHECK.refusesArgument("cuvette(" + wrong + ", 0)", () -> x.cuvette(wrong, 0));
        }
        for (int wrong : new int[] {-1, 3, MIN, MAX}) {
            CHECK.refusesArgument("cuvette(0, " + wrong + ")", () -> x.cuvette(0, wrong));
        }
    }

    private static void dueCuvette(String when, SampleAnalyser x, int c, int order, int wash, int content) {
        CHECK.due("cuvette(" + c + ", 0) " + when, x.cuvette(c, 0), order);
        CHECK.due("cuvette(" + c + ", 1) " + when, x.cuvette(c, 1), wash);
        CHECK.due("cuvette(" + c + ", 2) " + when, x.cuvette(c, 2), content);
    }

    private static void disc() {
        SampleAnalyser x = new SampleAnalyser();
        Setup.plain(x, 0);
        x.rack(0, 1, 0, 100);
        x.order(1, 0, false);
        CHECK.due("step()", x.step(), 0);
        CHECK.due("idle()", x.idle(), 0);
        dueCuvette("at age 0", x, 0, 0, 0, 10);
        CHECK.due("step()", x.step(), -1);
        dueCuvette("at age 1", x, 0, 0, 0, 10);
        CHECK.due("age", x.state(0, 4), 1);
        CHECK.due("step()", x.step(), -1);
        dueCuvette("ended", x, 0, -1, 3, 0);
        CHECK.due("released", x.state(0, 0), 2);
        x.step();
        dueCuvette("in the second step of wash", x, 0, -1, 2, 0);
        x.step();
        dueCuvette("in the third step of wash", x, 0, -1, 1, 0);
        x.step();
        dueCuvette("clean", x, 0, -1, 0, 0);
        CHECK.due("idle()", x.idle(), 5);
    }

    private static void leastCleanCuvette() {
        SampleAnalyser x = new SampleAnalyser();
        Setup.plain(x, 0);
        x.rack(0, 1, 0, 1000);
        for (int n = 0; n < 8; n++) {
            x.order(1, 0, false);
        }
        int[] wants = {0, 1, 2, 3, 4, 0, 1, 2};
        for (int n = 0; n < wants.length; n++) {
            CHECK.due("step()", x.step(), n);
            CHECK.due("cuvette of order " + n, x.state(n, 3), wants[n]);
            CHECK.due("order of its cuvette", x.cuvette(wants[n], 0), n);
        }
        CHECK.due("idle()", x.idle(), 0);
    }

    private static void contents() {
        SampleAnalyser x = new SampleAnalyser();
        Setup.define(x, 0, 0, 25, 1, 0, 2, 300, 3, 1, 4, 1, 5, 40, 6, 3, 7, 4, 8, 4, 11, 20000);
        Setup.curve(x, 0, 0, 0, 16384, 16384);
        x.seal(0);
        x.rack(0, 1, 0, 100);
        x.reagent(0, 0, 1000, 9);
        x.reagent(1, 1, 1000, 9);
        x.order(1, 0, false);
        int[] contents = {25, 325, 325, 365, 365, 0};
        int[] firstReserved = {300, 0, 0, 0, 0, 0};
        int[] secondReserved = {40, 40, 40, 0, 0, 0};
        for (int age = 0; age < contents.length; age++) {
            x.step();
            CHECK.due("content at age " + age, x.cuvette(0, 2), contents[age]);
            CHECK.due("first reserved at age " + age, x.volume(2, 0), firstReserved[age]);
            CHECK.due("second reserved at age " + age, x.volume(2, 1), secondReserved[age]);
        }
        CHECK.due("first left", x.volume(1, 0), 700);
        CHECK.due("second left", x.volume(1, 1), 960);
        CHECK.due("sample left", x.volume(0, 0), 75);
    }

    private static void readingsOfTheirAges() {
        SampleAnalyser x = new SampleAnalyser();
        Setup.define(x, 0, 0, 10, 7, 2, 8, 4, 9, Setup.DIFFERENCE, 10, -20000, 11, 20000);
        Setup.curve(x, 0, 0, 0, 16384, 16384);
        x.seal(0);
        x.rack(0, 1, 0, 100);
        x.order(1, 0, false);
        int[] lights = {1, 2, 3, 5, 9, 16};
        for (int light : lights) {
            Setup.lightOf(x, light);
            x.step();
        }
        CHECK.due("light at age 4 less that at age 2", x.state(0, 5), (9 - 3) * 1024);
    }

    /** A cuvette that is used a second time has nothing of its first run. */
    private static void usedAgain() {
        SampleAnalyser x = new SampleAnalyser();
        Setup.define(x, 0, 0, 10, 1, 0, 2, 30, 3, 1, 4, 1, 5, 20, 6, 2, 7, 3, 8, 8, 9, Setup.RATE);
        Setup.define(x, 0, 10, -20000, 11, 20000);
        Setup.curve(x, 0, -1000000, -1000000, 1000000, 1000000);
        x.seal(0);
        x.rack(0, 1, 0, 100);
        x.reagent(0, 0, 100, 9);
        x.reagent(1, 1, 100, 9);
        for (int round = 1; round <= 3; round++) {
            int number = x.order(1, 0, false);
            Setup.lightOf(x, 1);
            CHECK.due("step()", x.step(), number);
            CHECK.due("cuvette", x.state(number, 3), 0);
            Setup.steps(x, 7);
            CHECK.due("content", x.cuvette(0, 2), 60);
            Setup.lightOf(x, 1 + round);
            Setup.steps(x, 5);
            // n = 6, only the last reading is higher: 1000 * 1024 * 15 / 105 for each 1024 of it.
            CHECK.due("value", x.state(number, 5), Math.round(round * 1024000.0 / 7));
            CHECK.due("first left", x.volume(1, 0), 100 - 30 * round);
            CHECK.due("second left", x.volume(1, 1), 100 - 20 * round);
        }
    }

    private static void lastCuvetteAndPosition() {
        SampleAnalyser x = new SampleAnalyser();
        Setup.withReagent(x, 0, 2, 5, 9);
        x.rack(5, 1, 0, 1000);
        x.reagent(7, 2, 1000, 9);
        for (int n = 0; n < 10; n++) {
            x.order(1, 0, false);
        }
        Setup.steps(x, 10);
        CHECK.due("cuvette of the tenth", x.state(9, 3), 9);
        CHECK.due("reserved", x.volume(2, 7), 45);
        CHECK.due("left", x.volume(1, 7), 995);
        Setup.lightOf(x, 4);
        Setup.steps(x, 9);
        CHECK.due("content", x.cuvette(9, 2), 15);
        Setup.lightOf(x, 6);
        Setup.steps(x, 2);
        CHECK.due("value of the ninth", x.state(8, 5), 4096);
        CHECK.due("value of the tenth", x.state(9, 5), 6144);
        CHECK.due("reserved", x.volume(2, 7), 0);
        CHECK.due("left", x.volume(1, 7), 950);
        x.order(1, 0, false);
        x.step();
        CHECK.due("reserved", x.volume(2, 7), 5);
        x.spoil(1);
        Setup.steps(x, 9);
        CHECK.due("left behind a miss", x.volume(1, 7), 950);
        CHECK.due("reserved for the second run", x.volume(2, 7), 5);
    }

    private static void volumesOfNoReagent() {
        SampleAnalyser x = new SampleAnalyser();
        Setup.plain(x, 0);
        Setup.define(x, 0, 2, 50, 3, 1, 5, 50, 6, 1);
        CHECK.due("seal", x.seal(0), true);
        x.rack(0, 1, 0, 100);
        x.reagent(0, 0, 1000, 9);
        x.order(1, 0, false);
        x.order(1, 0, false);
        CHECK.row("step()", new int[] {0, 1}, x::step);
        CHECK.due("nothing reserved", x.volume(2, 0), 0);
        CHECK.due("nothing taken", x.volume(1, 0), 1000);
        CHECK.due("the sample alone", x.cuvette(0, 2), 10);
    }

    private static void whichPosition() {
        SampleAnalyser x = new SampleAnalyser();
        Setup.withReagent(x, 0, 2, 100, 2);
        x.rack(0, 1, 0, 1000);
        x.reagent(0, 2, 1000, 50);
        x.reagent(1, 2, 99, 10);
        x.reagent(2, 3, 1000, 5);
        x.reagent(3, 2, 150, 20);
        x.reagent(4, 2, 1000, 30);
        x.reagent(5, 2, 1000, 30);
        x.reagent(6, 2, 1000, 1);
        x.clock(1);
        x.order(1, 0, false);
        x.order(1, 0, false);
        x.step();
        CHECK.due("the one that expires first of those with enough", x.volume(2, 3), 100);
        x.step();
        CHECK.due("not what is reserved", x.volume(2, 3), 100);
        CHECK.due("of two the least number", x.volume(2, 4), 100);
        int[] others = {0, 1, 2, 5, 6};
        for (int p : others) {
            CHECK.due("volume(2, " + p + ")", x.volume(2, p), 0);
        }
    }

    private static void twoOfKind(SampleAnalyser x, int firstDose, int secondDose) {
        Setup.define(x, 0, 0, 10, 1, 4, 2, firstDose, 3, 1, 4, 4, 5, secondDose, 6, 2, 7, 3, 8, 3, 11, 20000);
        Setup.curve(x, 0, 0, 0, 16384, 16384);
        x.seal(0);
        x.rack(0, 1, 0, 100);
    }

    private static void twoReagentsOfOneKind() {
        SampleAnalyser x = new SampleAnalyser();
        twoOfKind(x, 60, 50);
        x.reagent(0, 4, 109, 10);
        x.order(1, 0, false);
        CHECK.due("step() with one too little for both", x.step(), -1);
        CHECK.due("reason", x.state(0, 1), 2);
        CHECK.due("nothing reserved", x.volume(2, 0), 0);
        x.reagent(1, 4, 50, 20);
        x.order(1, 0, false);
        CHECK.due("step() with two", x.step(), 1);
        CHECK.due("first", x.volume(2, 0), 60);
        CHECK.due("second", x.volume(2, 1), 50);
        Setup.steps(x, 2);
        CHECK.due("first left", x.volume(1, 0), 49);
        CHECK.due("second left", x.volume(1, 1), 0);

        SampleAnalyser y = new SampleAnalyser();
        twoOfKind(y, 60, 50);
        y.reagent(0, 4, 110, 10);
        y.order(1, 0, false);
        CHECK.due("step() with one for both", y.step(), 0);
        CHECK.due("both reserved", y.volume(2, 0), 110);
        y.step();
        CHECK.due("one reserved", y.volume(2, 0), 50);
        CHECK.due("one taken", y.volume(1, 0), 50);
    }

    private static void secondReagentShort() {
        SampleAnalyser x = new SampleAnalyser();
        Setup.define(x, 0, 0, 10, 1, 0, 2, 10, 3, 1, 4, 1, 5, 10, 6, 2, 7, 3, 8, 3, 11, 20000);
        Setup.curve(x, 0, 0, 0, 16384, 16384);
        x.seal(0);
        x.rack(0, 1, 0, 100);
        x.reagent(0, 0, 100, 10);
        x.order(1, 0, false);
        CHECK.due("step()", x.step(), -1);
        CHECK.due("reason", x.state(0, 1), 2);
        CHECK.due("the first one is not reserved", x.volume(2, 0), 0);
        CHECK.due("the sample is not taken", x.volume(0, 0), 100);
    }

    /** Tests 0 .. 2 give kinds 0 .. 2 at these ages; all have a rack and reagents enough. */
    private static SampleAnalyser threeKinds(int... ages) {
        SampleAnalyser x = new SampleAnalyser();
        for (int test = 0; test < ages.length; test++) {
            Setup.withReagent(x, test, test, 10, ages[test]);
            x.reagent(test, test, 10000, 1000);
        }
        x.rack(0, 1, 0, 10000);
        return x;
    }

    private static void takenSteps() {
        SampleAnalyser x = threeKinds(3, 2);
        x.order(1, 0, false);
        x.order(1, 1, false);
        CHECK.row("step() with a taken step", new int[] {0, -1, 1}, x::step);
        CHECK.due("idle()", x.idle(), 1);
    }

    private static void forbiddenAmongBooked() {
        SampleAnalyser x = threeKinds(3, 3);
        x.forbid(0, 1);
        x.order(1, 0, false);
        x.order(1, 1, false);
        CHECK.row("step() with a forbidden one behind", new int[] {0, -1, 1}, x::step);

        SampleAnalyser y = threeKinds(3, 1);
        y.forbid(1, 0);
        y.order(1, 0, false);
        y.order(1, 1, false);
        // In the second step the use would come just ahead of the booked one, in the third one in its step.
        CHECK.row("step() with a forbidden one ahead", new int[] {0, -1, -1, 1}, y::step);

        SampleAnalyser z = threeKinds(3, 3);
        z.forbid(1, 0);
        z.order(1, 0, false);
        z.order(1, 1, false);
        CHECK.row("step() with the other succession forbidden", new int[] {0, 1}, z::step);
    }

    private static void forbiddenWithinARun() {
        SampleAnalyser x = new SampleAnalyser();
        Setup.define(x, 0, 0, 10, 1, 0, 2, 10, 3, 1, 4, 1, 5, 10, 6, 2, 7, 3, 8, 3, 11, 20000);
        Setup.curve(x, 0, 0, 0, 16384, 16384);
        x.seal(0);
        x.rack(0, 1, 0, 100);
        x.reagent(0, 0, 100, 10);
        x.reagent(1, 1, 100, 10);
        x.forbid(0, 1);
        x.order(1, 0, false);
        CHECK.due("step()", x.step(), -1);
        CHECK.due("it waits", x.state(0, 0), 0);
        CHECK.due("nothing reserved", x.volume(2, 0) + x.volume(2, 1), 0);
        x.forbid(0, 1);
        CHECK.due("step() when it is allowed", x.step(), 0);
    }

    private static void rinseIsEnough() {
        SampleAnalyser x = threeKinds(3, 4);
        x.forbid(0, 1);
        x.order(1, 0, false);
        x.order(1, 1, false);
        CHECK.row("step() with a step between", new int[] {0, 1}, x::step);

        // The use of kind 2 between the two makes them no succession.
        SampleAnalyser y = threeKinds(3, 3, 3);
        y.forbid(0, 1);
        y.order(1, 0, false);
        y.order(1, 2, false);
        y.order(1, 1, false);
        CHECK.row("step() with another use between", new int[] {0, 1, 2}, y::step);
    }

    private static void forbiddenBehindWhatWasGiven() {
        SampleAnalyser x = threeKinds(1, 1);
        x.forbid(0, 1);
        x.order(1, 0, false);
        CHECK.due("step()", x.step(), 0);
        x.order(1, 1, false);
        CHECK.due("step() that gives kind 0", x.step(), -1);
        CHECK.due("step() behind it", x.step(), 1);

        SampleAnalyser y = threeKinds(1, 2);
        y.forbid(0, 1);
        y.order(1, 0, false);
        CHECK.due("step()", y.step(), 0);
        y.order(1, 1, false);
        CHECK.due("step() that gives kind 0, with a step between", y.step(), 1);
    }

    private static void forbiddenBehindTheirBooking() {
        SampleAnalyser x = threeKinds(4, 4, 9);
        x.order(1, 0, false);
        x.order(1, 1, false);
        CHECK.row("step()", new int[] {0, 1}, x::step);
        x.forbid(0, 1);
        x.order(1, 2, false);
        // The third step of these gives kind 0, so kind 1 is the first one booked; the fourth one gives that too.
        CHECK.row("step() with a pair made wrong", new int[] {-1, -1, -1, 2}, x::step);
    }

    private static void runsWithoutReagentsLookAtBookings() {
        SampleAnalyser x = threeKinds(3, 3);
        Setup.plain(x, 3);
        x.order(1, 0, false);
        x.order(1, 1, false);
        CHECK.row("step()", new int[] {0, 1}, x::step);
        x.forbid(0, 1);
        x.order(1, 3, false);
        CHECK.due("step() with a pair made wrong", x.step(), -1);
        x.forbid(0, 1);
        CHECK.due("step() with the pair allowed", x.step(), 2);
    }

    private static void oneThatIsBlockedLetsOthersStart() {
        SampleAnalyser x = threeKinds(3, 2, 5);
        x.order(1, 0, true);
        x.order(1, 1, true);
        x.order(1, 2, false);
        CHECK.row("step()", new int[] {0, 2, 1}, x::step);
        CHECK.due("idle()", x.idle(), 0);
    }

    private static void endedRunsByNumber() {
        SampleAnalyser x = new SampleAnalyser();
        Setup.plain(x, 0);
        Setup.define(x, 1, 0, 10, 7, 2, 8, 2, 11, 20000);
        Setup.curve(x, 1, 0, 0, 16384, 16384);
        x.seal(1);
        x.rack(0, 1, 0, 100);
        x.order(1, 0, false);
        x.order(1, 1, true);
        CHECK.row("step()", new int[] {1, 0, -1, -1}, x::step);
        CHECK.due("host(0)", x.host(0), 0);
        CHECK.due("host(1)", x.host(1), 1);
    }
}
