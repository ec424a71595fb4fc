/** The edges of promises 1 (a new object), 13 (step), 14 (idle) and 16 (cuvette), and of THE DISC and A STEP. */
public final class EdgesOfTheDiscTest {
    private static final int MIN = Check.MIN;
    private static final int MAX = Check.MAX;
    private static final int MOST_CALLS = 512;
    private static final Check CHECK = new Check();

    public static void main(String[] args) {
        newObject();
        cuvettes();
        ages();
        wash();
        orderWithinAStep();
        stepAndIdle();
        argumentsOfCuvette();
        answersOfCuvette();
        CHECK.end();
    }

    private static SampleAnalyser plain(int orders) {
        SampleAnalyser x = new SampleAnalyser();
        Setup.plain(x, 0);
        x.rack(0, 1, 0, 1000);
        for (int n = 0; n < orders; n++) {
            x.order(1, 0, false);
        }
        return x;
    }

    /** Orders whose runs last longer than ten starts take. */
    private static SampleAnalyser longRuns(int orders) {
        SampleAnalyser x = new SampleAnalyser();
        Setup.read(x, 0, 12);
        x.rack(0, 1, 0, 1000);
        for (int n = 0; n < orders; n++) {
            x.order(1, 0, false);
        }
        return x;
    }

    private static void dueCuvette(SampleAnalyser x, int c, int order, int wash, int content) {
        CHECK.due("cuvette(" + c + ", 0)", x.cuvette(c, 0), order);
        CHECK.due("cuvette(" + c + ", 1)", x.cuvette(c, 1), wash);
        CHECK.due("cuvette(" + c + ", 2)", x.cuvette(c, 2), content);
    }

    // ---- promise 1 and the life of an object ----

    private static void newObject() {
        CHECK.edge("no orders: nothing starts", () -> {
            SampleAnalyser x = new SampleAnalyser();
            CHECK.due("idle()", x.idle(), 0);
            CHECK.due("step()", x.step(), -1);
            CHECK.due("idle()", x.idle(), 1);
        });
        CHECK.edge("all cuvettes clean", () -> {
            SampleAnalyser x = new SampleAnalyser();
            for (int c = 0; c < 10; c++) {
                dueCuvette(x, c, -1, 0, 0);
            }
        });
        CHECK.edge("minute 0", () -> {
            SampleAnalyser x = new SampleAnalyser();
            CHECK.refusesArgument("clock(-1)", () -> x.clock(-1));
            CHECK.takes("clock(0)", () -> x.clock(0));
        });
        CHECK.edge("a new object: nothing is forbidden, no arm is spoilt", () -> {
            SampleAnalyser x = new SampleAnalyser();
            Setup.withReagents(x, 0, 5, 10, 1, 5, 10, 2);
            x.rack(0, 1, 0, 100);
            x.reagent(0, 5, 100, 9);
            x.order(1, 0, false);
            Setup.steps(x, 3);
            CHECK.due("cuvette(0, 2)", x.cuvette(0, 2), 30);
            CHECK.due("forbid(5, 5)", x.forbid(5, 5), true);
        });
        CHECK.edge("a new object has nothing of another one", () -> {
            SampleAnalyser old = plain(3);
            old.spoil(0);
            old.forbid(0, 0);
            Setup.steps(old, 3);
            SampleAnalyser x = new SampleAnalyser();
            CHECK.due("idle()", x.idle(), 0);
            CHECK.refusesState("order", () -> x.order(1, 0, false));
            CHECK.due("forbid(0, 0)", x.forbid(0, 0), true);
            CHECK.due("forbid(0, 0) of the old one", old.forbid(0, 0), false);
        });
        CHECK.edge("an object is used for at most 512 calls: with steps alone", () -> {
            SampleAnalyser x = new SampleAnalyser();
            for (int call = 1; call < MOST_CALLS; call++) {
                x.step();
            }
            CHECK.due("idle(), call 512", x.idle(), MOST_CALLS - 1);
        });
        CHECK.edge("an object is used for at most 512 calls: with all its orders", () -> {
            SampleAnalyser x = plain(40);
            // 49 calls made it: 5 fields, 2 points, a seal, a rack and 40 orders.
            Setup.steps(x, MOST_CALLS - 49 - 3);
            CHECK.due("host(39), call 510", x.host(39), 39);
            CHECK.due("idle(), call 511", x.idle(), MOST_CALLS - 49 - 3 - 40);
            CHECK.due("took(40), call 512", x.took(40), 0);
        });
    }

    // ---- the disc ----

    private static void cuvettes() {
        CHECK.edge("THE DISC has 10 CUVETTES", () -> {
            SampleAnalyser x = longRuns(12);
            CHECK.row("step()", new int[] {0, 1, 2, 3, 4, 5, 6, 7, 8, 9, -1, -1}, x::step);
            for (int c = 0; c < 10; c++) {
                CHECK.due("cuvette(" + c + ", 0)", x.cuvette(c, 0), c);
            }
            CHECK.due("the eleventh waits", x.state(10, 0), 0);
        });
        CHECK.edge("... the eleventh run: in the step in which one of ten is clean again", () -> {
            SampleAnalyser x = longRuns(11);
            Setup.steps(x, 10);
            // The first run starts in step 1 and ends in step 14, at age 13; the wash is in steps 14 to 16.
            CHECK.row("step() 11 to 16", new int[] {-1, -1, -1, -1, -1, -1}, x::step);
            CHECK.due("step() 17", x.step(), 10);
            CHECK.due("state(10, 3)", x.state(10, 3), 0);
        });
        CHECK.edge("... the tenth goes on, is given its reagent, is read and washed as the first", () -> {
            SampleAnalyser x = new SampleAnalyser();
            Setup.withReagent(x, 0, 0, 30, 10);
            x.rack(0, 1, 0, 1000);
            x.reagent(0, 0, 1000, 9);
            for (int n = 0; n < 10; n++) {
                x.order(1, 0, false);
            }
            Setup.steps(x, 10);
            for (int age = 0; age < 12; age++) {
                CHECK.due("state(9, 4)", x.state(9, 4), age);
                dueCuvette(x, 9, 9, 0, age < 10 ? 10 : 40);
                Setup.lightOf(x, age + 2);
                x.step();
            }
            CHECK.due("the light at age 11", x.state(9, 5), 12 * 1024);
            for (int still : new int[] {3, 2, 1, 0}) {
                dueCuvette(x, 9, -1, still, 0);
                x.step();
            }
        });
        CHECK.edge("a started RUN takes the CLEAN one with the least number", () -> {
            SampleAnalyser x = plain(8);
            int[] wants = {0, 1, 2, 3, 4, 0, 1, 2};
            for (int n = 0; n < wants.length; n++) {
                x.step();
                CHECK.due("cuvette of order " + n, x.state(n, 3), wants[n]);
            }
        });
        CHECK.edge("... with the least number: not the one that is clean the longest", () -> {
            SampleAnalyser x = plain(1);
            Setup.steps(x, 6);
            x.order(1, 0, false);
            CHECK.due("step()", x.step(), 1);
            CHECK.due("state(1, 3)", x.state(1, 3), 0);
        });
        CHECK.edge("... the CLEAN one: not one in its last step of wash", () -> {
            SampleAnalyser x = plain(1);
            Setup.steps(x, 4);
            x.order(1, 0, false);
            CHECK.due("step()", x.step(), 1);
            CHECK.due("cuvette(0, 1)", x.cuvette(0, 1), 1);
            CHECK.due("state(1, 3)", x.state(1, 3), 1);
        });
    }

    private static void ages() {
        CHECK.edge("its age is 0 in the step in which it starts, and one more in each step", () -> {
            SampleAnalyser x = longRuns(1);
            for (int age = 0; age <= 12; age++) {
                x.step();
                CHECK.due("age", x.state(0, 4), age);
                CHECK.due("it runs", x.state(0, 0), 1);
            }
            x.step();
            CHECK.due("age", x.state(0, 4), -1);
            CHECK.due("it is released", x.state(0, 0), 2);
        });
        CHECK.edge("at the age behind its last reading the run ends", () -> {
            for (int last = 1; last <= 12; last++) {
                SampleAnalyser x = new SampleAnalyser();
                Setup.read(x, 0, last);
                x.rack(0, 1, 0, 100);
                x.order(1, 0, false);
                Setup.steps(x, last + 1);
                CHECK.due("at age " + last, x.state(0, 0), 1);
                x.step();
                CHECK.due("at age " + (last + 1), x.state(0, 0), 2);
            }
        });
        CHECK.edge("readings are taken by runs of an age for that, of the LIGHT as it is", () -> {
            SampleAnalyser x = new SampleAnalyser();
            Setup.define(x, 0, 0, 10, 7, 2, 8, 4, 9, Setup.DIFFERENCE, 10, -20000, 11, 20000);
            Setup.curve(x, 0, 0, 0, 16384, 16384);
            x.seal(0);
            x.rack(0, 1, 0, 100);
            x.order(1, 0, false);
            int[] lightAtAge = {16, 15, 2, 14, 7, 13};
            for (int light : lightAtAge) {
                Setup.lightOf(x, light);
                x.step();
            }
            CHECK.due("the light at age 4 less that at age 2", x.state(0, 5), 5 * 1024);
        });
        CHECK.edge("... of the LIGHT as it is: several runs in one step", () -> {
            SampleAnalyser x = new SampleAnalyser();
            Setup.read(x, 0, 1);
            Setup.read(x, 1, 2);
            x.rack(0, 1, 0, 100);
            x.order(1, 1, false);
            x.order(1, 0, false);
            Setup.steps(x, 2);
            Setup.lightOf(x, 6);
            x.step();
            Setup.lightOf(x, 9);
            x.step();
            CHECK.due("at age 2", x.state(0, 5), 6144);
            CHECK.due("at age 1", x.state(1, 5), 6144);
        });
        CHECK.edge("the first reading at age 1, the last at age 12", () -> {
            for (int age : new int[] {1, 12}) {
                SampleAnalyser x = new SampleAnalyser();
                Setup.read(x, 0, age);
                x.rack(0, 1, 0, 100);
                x.order(1, 0, false);
                Setup.lightOf(x, 3);
                Setup.steps(x, age);
                Setup.lightOf(x, 5);
                x.step();
                Setup.lightOf(x, 8);
                x.step();
                CHECK.due("the reading at age " + age, x.state(0, 5), 5120);
            }
        });
    }

    private static void wash() {
        CHECK.edge("the cuvette is in the WASH for 3 steps (that one counted) and clean in the next one", () -> {
            SampleAnalyser x = plain(1);
            Setup.steps(x, 2);
            dueCuvette(x, 0, 0, 0, 10);
            int[] steps = {3, 2, 1, 0, 0};
            for (int still : steps) {
                x.step();
                dueCuvette(x, 0, -1, still, 0);
            }
        });
        CHECK.edge("... and clean in the next one: a run starts in it in that step", () -> {
            SampleAnalyser x = plain(1);
            Setup.steps(x, 5);
            CHECK.due("cuvette(0, 1)", x.cuvette(0, 1), 1);
            x.order(1, 0, false);
            CHECK.due("step()", x.step(), 1);
            dueCuvette(x, 0, 1, 0, 10);
        });
        CHECK.edge("one whose run breaks off goes into the wash in the same step likewise: of a miss", () -> {
            SampleAnalyser x = new SampleAnalyser();
            Setup.withReagent(x, 0, 0, 10, 3);
            x.rack(0, 1, 0, 10);
            x.reagent(0, 0, 10, 9);
            x.order(1, 0, false);
            x.spoil(1);
            Setup.steps(x, 3);
            dueCuvette(x, 0, 0, 0, 10);
            int[] steps = {3, 2, 1, 0};
            for (int still : steps) {
                x.step();
                dueCuvette(x, 0, -1, still, 0);
            }
        });
        CHECK.edge("one whose run breaks off goes into the wash in the same step likewise: of a clot", () -> {
            SampleAnalyser x = plain(1);
            x.spoil(0);
            x.step();
            dueCuvette(x, 0, -1, 3, 0);
            int[] steps = {2, 1, 0};
            for (int still : steps) {
                x.step();
                dueCuvette(x, 0, -1, still, 0);
            }
        });
    }

    private static void orderWithinAStep() {
        CHECK.edge("runs that end are judged, by the order's number", () -> {
            SampleAnalyser x = new SampleAnalyser();
            Setup.read(x, 0, 1);
            Setup.read(x, 1, 2);
            x.rack(0, 1, 0, 100);
            x.order(1, 0, false);
            x.order(1, 1, true);
            CHECK.row("step()", new int[] {1, 0, -1, -1}, x::step);
            CHECK.due("host(0), which started later", x.host(0), 0);
            CHECK.due("host(1)", x.host(1), 1);
        });
        CHECK.edge("judged by the order's number: into the history, too", () -> {
            SampleAnalyser x = new SampleAnalyser();
            Setup.read(x, 0, 1);
            Setup.define(x, 0, 12, Setup.REPEAT, 10, 3000);
            x.seal(0);
            Setup.read(x, 1, 2);
            x.rack(0, 1, 1, 100);
            x.order(1, 1, false);
            x.order(1, 1, false);
            Setup.steps(x, 2);
            Setup.lightOf(x, 2);
            x.step();
            Setup.lightOf(x, 4);
            x.step();
            x.step();
            CHECK.due("trend(1, 0)", x.trend(1, 0), 4096);
            CHECK.due("trend(1, 1)", x.trend(1, 1), 2048);
        });
        CHECK.edge("then an order may start: one that was judged in the step, too", () -> {
            SampleAnalyser x = plain(0);
            Setup.define(x, 0, 11, 5000, 12, Setup.REPEAT);
            x.seal(0);
            x.order(1, 0, false);
            Setup.lightOf(x, 9);
            CHECK.row("step()", new int[] {0, -1, 0}, x::step);
            CHECK.due("its first cuvette is in the wash", x.cuvette(0, 1), 3);
            CHECK.due("its second run is in the next one", x.state(0, 3), 1);
        });
        CHECK.edge("then an order may start, and its sample is taken", () -> {
            SampleAnalyser x = plain(2);
            x.step();
            CHECK.due("volume(0, 0)", x.volume(0, 0), 990);
            CHECK.due("cuvette(0, 2)", x.cuvette(0, 2), 10);
            x.step();
            CHECK.due("volume(0, 0)", x.volume(0, 0), 980);
        });
        CHECK.edge("the reagent arm gives what is booked for the step: at ages 1 and 11", () -> {
            SampleAnalyser x = new SampleAnalyser();
            Setup.withReagents(x, 0, 0, 20, 1, 5, 30, 11);
            x.rack(0, 1, 0, 10);
            x.reagent(0, 0, 20, 9);
            x.reagent(1, 5, 30, 9);
            x.order(1, 0, false);
            x.step();
            CHECK.due("at age 0", x.cuvette(0, 2), 10);
            x.step();
            CHECK.due("at age 1", x.cuvette(0, 2), 30);
            Setup.steps(x, 9);
            CHECK.due("at age 10", x.cuvette(0, 2), 30);
            CHECK.due("volume(2, 1)", x.volume(2, 1), 30);
            x.step();
            CHECK.due("at age 11", x.cuvette(0, 2), 60);
            CHECK.due("volume(1, 1)", x.volume(1, 1), 0);
        });
    }

    // ---- promises 13, 14 ----

    private static void stepAndIdle() {
        CHECK.edge("step: -1 if none did", () -> {
            SampleAnalyser x = plain(1);
            CHECK.row("step()", new int[] {0, -1, -1, -1}, x::step);
        });
        CHECK.edge("step: the number of the order that started, 39 too", () -> {
            SampleAnalyser x = plain(40);
            for (int n = 0; n < 40; n++) {
                CHECK.due("step()", x.step(), n);
            }
            CHECK.due("step()", x.step(), -1);
        });
        CHECK.edge("idle: steps in which nothing started", () -> {
            SampleAnalyser x = plain(2);
            int[] idle = {0, 0, 1, 2, 3};
            for (int want : idle) {
                x.step();
                CHECK.due("idle()", x.idle(), want);
            }
        });
        CHECK.edge("idle: asking does not count", () -> {
            SampleAnalyser x = new SampleAnalyser();
            x.step();
            CHECK.row("idle()", new int[] {1, 1, 1}, x::idle);
        });
        CHECK.edge("idle: a second run is a start", () -> {
            SampleAnalyser x = plain(1);
            x.spoil(0);
            CHECK.row("step()", new int[] {0, 0, -1}, x::step);
            CHECK.due("idle()", x.idle(), 1);
        });
        CHECK.edge("idle: a step in which a run breaks off and nothing starts", () -> {
            SampleAnalyser x = new SampleAnalyser();
            Setup.withReagent(x, 0, 0, 10, 1);
            x.rack(0, 1, 0, 10);
            x.reagent(0, 0, 10, 9);
            x.order(1, 0, false);
            x.spoil(1);
            CHECK.row("step()", new int[] {0, -1}, x::step);
            CHECK.due("idle()", x.idle(), 1);
        });
    }

    // ---- promise 16 ----

    private static void argumentsOfCuvette() {
        CHECK.edge("cuvette: no such cuvette", () -> {
            SampleAnalyser x = new SampleAnalyser();
            for (int wrong : new int[] {-1, 10, MIN, MAX}) {
                for (int what = 0; what < 3; what++) {
                    int w = what;
                    CHECK.refusesArgument("cuvette(" + wrong + ", " + w + ")", () -> x.cuvette(wrong, w));
                }
            }
            CHECK.takes("cuvette(0, 0)", () -> x.cuvette(0, 0));
            CHECK.takes("cuvette(9, 0)", () -> x.cuvette(9, 0));
        });
        CHECK.edge("cuvette: no such what", () -> {
            SampleAnalyser x = new SampleAnalyser();
            for (int wrong : new int[] {-1, 3, MIN, MAX}) {
                CHECK.refusesArgument("cuvette(0, " + wrong + ")", () -> x.cuvette(0, wrong));
                CHECK.refusesArgument("cuvette(9, " + wrong + ")", () -> x.cuvette(9, wrong));
            }
            CHECK.takes("cuvette(0, 2)", () -> x.cuvette(0, 2));
        });
    }

    private static void answersOfCuvette() {
        CHECK.edge("the order that runs in it (-1): order 0 is no -1", () -> {
            SampleAnalyser x = plain(1);
            CHECK.due("cuvette(0, 0)", x.cuvette(0, 0), -1);
            x.step();
            CHECK.due("cuvette(0, 0)", x.cuvette(0, 0), 0);
            Setup.steps(x, 2);
            CHECK.due("cuvette(0, 0) in the wash", x.cuvette(0, 0), -1);
        });
        CHECK.edge("steps of wash (0 if it is not in the wash)", () -> {
            SampleAnalyser x = plain(1);
            int[] wants = {0, 0, 3, 2, 1, 0};
            for (int want : wants) {
                x.step();
                CHECK.due("cuvette(0, 1)", x.cuvette(0, 1), want);
            }
        });
        CHECK.edge("cuvette(c, 2) is the sample as it was taken and the reagents given so far", () -> {
            SampleAnalyser x = new SampleAnalyser();
            Setup.withReagents(x, 0, 0, 300, 1, 1, 40, 3);
            x.rack(0, 1, 0, 100);
            x.reagent(0, 0, 1000, 9);
            x.reagent(1, 1, 1000, 9);
            x.order(1, 0, false);
            int[] wants = {10, 310, 310, 350, 350, 0};
            for (int want : wants) {
                x.step();
                CHECK.due("cuvette(0, 2)", x.cuvette(0, 2), want);
            }
        });
        CHECK.edge("... the sample as it was taken: diluted", () -> {
            SampleAnalyser x = plain(0);
            Setup.define(x, 0, 11, 5000, 12, Setup.DILUTE, 13, 10);
            x.seal(0);
            x.order(1, 0, false);
            Setup.lightOf(x, 9);
            Setup.steps(x, 3);
            CHECK.due("cuvette(1, 2)", x.cuvette(1, 2), 1);
        });
        CHECK.edge("the volume in it (0 in the wash and when clean), also of a cuvette used again", () -> {
            SampleAnalyser x = new SampleAnalyser();
            Setup.withReagent(x, 0, 0, 30, 1);
            x.rack(0, 1, 0, 100);
            x.reagent(0, 0, 1000, 9);
            for (int round = 0; round < 3; round++) {
                x.order(1, 0, false);
                int[] wants = {10, 40, 40, 0, 0, 0, 0};
                for (int want : wants) {
                    x.step();
                    CHECK.due("cuvette(0, 2)", x.cuvette(0, 2), want);
                }
            }
        });
    }
}
