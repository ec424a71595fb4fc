/** The edges of promise 8 (forbid) and of the BOOKINGS. */
public final class EdgesOfBookingsTest {
    private static final int MIN = Check.MIN;
    private static final int MAX = Check.MAX;
    private static final Check CHECK = new Check();

    public static void main(String[] args) {
        forbid();
        takenSteps();
        successions();
        whatWasGiven();
        pairsMadeWrong();
        who();
        CHECK.end();
    }

    /** Tests 0 .. 3 give kinds 0 .. 3, 10 of each, at these ages; all have a rack and reagents enough. */
    private static SampleAnalyser kinds(int... ages) {
        SampleAnalyser x = new SampleAnalyser();
        for (int test = 0; test < ages.length; test++) {
            Setup.withReagent(x, test, test, 10, ages[test]);
            x.reagent(test, test, 10000, 1000);
        }
        x.rack(0, 1, 0, 10000);
        return x;
    }

    /** Test 0 gives kinds 0 and 1 at two ages, test 1 kinds 2 and 3 at two others. */
    private static SampleAnalyser pairs(int first, int second, int third, int fourth) {
        SampleAnalyser x = new SampleAnalyser();
        Setup.withReagents(x, 0, 0, 10, first, 1, 10, second);
        Setup.withReagents(x, 1, 2, 10, third, 3, 10, fourth);
        for (int kind = 0; kind < 4; kind++) {
            x.reagent(kind, kind, 10000, 1000);
        }
        x.rack(0, 1, 0, 10000);
        x.order(1, 0, false);
        x.order(1, 1, false);
        return x;
    }

    private static void dueSteps(SampleAnalyser x, int... wants) {
        CHECK.row("step()", wants, x::step);
    }

    // ---- promise 8 ----

    private static void forbid() {
        CHECK.edge("forbid: no such kinds", () -> {
            SampleAnalyser x = new SampleAnalyser();
            for (int wrong : new int[] {-1, 6, MIN, MAX}) {
                CHECK.refusesArgument("forbid(" + wrong + ", 0)", () -> x.forbid(wrong, 0));
                CHECK.refusesArgument("forbid(0, " + wrong + ")", () -> x.forbid(0, wrong));
                CHECK.refusesArgument("forbid(5, " + wrong + ")", () -> x.forbid(5, wrong));
            }
            CHECK.due("forbid(0, 0)", x.forbid(0, 0), true);
            CHECK.due("forbid(5, 5)", x.forbid(5, 5), true);
        });
        CHECK.edge("turns a succession into a forbidden one, or back: whether it is forbidden then", () -> {
            SampleAnalyser x = new SampleAnalyser();
            boolean forbidden = false;
            for (int n = 0; n < 5; n++) {
                forbidden = !forbidden;
                CHECK.due("forbid(2, 4)", x.forbid(2, 4), forbidden);
            }
        });
        CHECK.edge("a succession of kinds: each of the 36 is one of its own", () -> {
            SampleAnalyser x = new SampleAnalyser();
            for (int round = 0; round < 2; round++) {
                for (int pair = 0; pair < 36; pair++) {
                    CHECK.due("forbid(" + pair / 6 + ", " + pair % 6 + ")", x.forbid(pair / 6, pair % 6), round == 0);
                }
            }
        });
        CHECK.edge("of kinds a, then b: not of b, then a", () -> {
            SampleAnalyser x = kinds(3, 3);
            x.forbid(1, 0);
            x.order(1, 0, false);
            x.order(1, 1, false);
            dueSteps(x, 0, 1);
        });
        CHECK.edge("of kinds a, then a", () -> {
            SampleAnalyser x = kinds(3);
            x.forbid(0, 0);
            x.order(1, 0, false);
            x.order(1, 0, false);
            dueSteps(x, 0, -1, 1);
        });
    }

    // ---- steps that are taken ----

    private static void takenSteps() {
        CHECK.edge("a run can't be booked if a step is taken", () -> {
            SampleAnalyser x = kinds(3, 2);
            x.order(1, 0, false);
            x.order(1, 1, false);
            dueSteps(x, 0, -1, 1);
        });
        CHECK.edge("... by the first reagent of another, for the first one",
                () -> dueSteps(pairs(4, 7, 3, 4), 0, -1, 1));
        CHECK.edge("... by the first reagent of another, for the second one",
                () -> dueSteps(pairs(4, 6, 1, 3), 0, -1, 1));
        CHECK.edge("... by the second reagent of another, for the first one",
                () -> dueSteps(pairs(1, 4, 3, 4), 0, -1, 1));
        CHECK.edge("... by the second reagent of another, for the second one",
                () -> dueSteps(pairs(1, 5, 2, 4), 0, -1, 1));
        CHECK.edge("... for the one step that is free between two that are taken", () -> {
            SampleAnalyser x = kinds(4, 3, 2);
            x.order(1, 0, false);
            x.order(1, 0, false);
            x.order(1, 1, true);
            dueSteps(x, 2, 0);
            // Kind 1 is booked for step 4 and kind 0 for step 6; kind 2 takes step 5.
            x.order(1, 2, true);
            dueSteps(x, 3, 1);
        });
        CHECK.edge("... at the farthest age, 11", () -> {
            SampleAnalyser x = kinds(11, 10);
            x.order(1, 0, false);
            x.order(1, 1, false);
            dueSteps(x, 0, -1, 1);
        });
        CHECK.edge("a run books the steps of its reagents when it starts: not while it waits", () -> {
            SampleAnalyser x = kinds(3, 2);
            x.order(9, 0, true);
            x.order(1, 1, false);
            dueSteps(x, 1);
        });
        CHECK.edge("a run that can't be booked has booked neither of its reagents", () -> {
            SampleAnalyser x = pairs(1, 5, 2, 4);
            Setup.withReagent(x, 2, 4, 10, 2);
            x.reagent(4, 4, 100, 1000);
            x.order(1, 2, false);
            // In step 2 the run of test 1 would take steps 4 and 6, of which 6 is taken; test 2 takes step 4.
            dueSteps(x, 0, 2);
        });
    }

    // ---- successions ----

    private static void successions() {
        CHECK.edge("a forbidden succession without a rinse among what is booked: behind a booked one", () -> {
            SampleAnalyser x = kinds(3, 3);
            x.forbid(0, 1);
            x.order(1, 0, false);
            x.order(1, 1, false);
            dueSteps(x, 0, -1, 1);
        });
        CHECK.edge("... ahead of a booked one", () -> {
            SampleAnalyser x = kinds(4, 2);
            x.forbid(1, 0);
            x.order(1, 0, false);
            x.order(1, 1, false);
            // Kind 0 is booked for step 5; kind 1 would come in steps 4, 5 and 6.
            dueSteps(x, 0, -1, -1, 1);
        });
        CHECK.edge("... within the run itself", () -> {
            SampleAnalyser x = pairs(1, 2, 8, 9);
            x.forbid(0, 1);
            dueSteps(x, 1, -1);
            CHECK.due("it waits", x.state(0, 0), 0);
            x.forbid(0, 1);
            dueSteps(x, 0);
        });
        CHECK.edge("... within the run itself, with a step between", () -> {
            SampleAnalyser x = pairs(1, 3, 8, 9);
            x.forbid(0, 1);
            dueSteps(x, 0);
        });
        CHECK.edge("... by the second reagent, behind a booked one", () -> {
            SampleAnalyser x = pairs(2, 5, 2, 5);
            x.forbid(1, 3);
            // Test 0 has steps 3 and 6; test 1 would have 4 and 7, then it has 5 and 8.
            dueSteps(x, 0, -1, 1);
        });
        CHECK.edge("... by the second reagent, ahead of a booked one", () -> {
            SampleAnalyser x = pairs(3, 7, 1, 5);
            x.forbid(3, 1);
            // Test 0 has steps 4 and 8; test 1 would have 3 and 7, then 4, then it has 5 and 9.
            dueSteps(x, 0, -1, -1, 1);
        });
        CHECK.edge("two uses need a step between them without a use: one is enough", () -> {
            SampleAnalyser x = kinds(3, 4);
            x.forbid(0, 1);
            x.order(1, 0, false);
            x.order(1, 1, false);
            dueSteps(x, 0, 1);
            SampleAnalyser y = kinds(4, 1);
            y.forbid(1, 0);
            y.order(1, 0, false);
            y.order(1, 1, false);
            dueSteps(y, 0, 1);
        });
        CHECK.edge("two uses one behind the other (none between): another use between makes them none", () -> {
            SampleAnalyser x = kinds(3, 3, 3);
            x.forbid(0, 1);
            x.order(1, 0, false);
            x.order(1, 2, false);
            x.order(1, 1, false);
            dueSteps(x, 0, 1, 2);
        });
        CHECK.edge("... though the use between is a forbidden succession itself", () -> {
            SampleAnalyser x = kinds(3, 3, 3);
            x.forbid(0, 1);
            x.forbid(2, 1);
            x.order(1, 0, false);
            x.order(1, 2, false);
            x.order(1, 1, false);
            dueSteps(x, 0, 1, -1, 2);
        });
        CHECK.edge("a forbidden succession: kinds 0 and 5, too", () -> {
            int[][] successions = {{0, 5}, {5, 0}, {0, 0}, {5, 5}};
            for (int[] succession : successions) {
                SampleAnalyser x = new SampleAnalyser();
                Setup.withReagent(x, 0, succession[0], 10, 3);
                Setup.withReagent(x, 1, succession[1], 10, 3);
                x.reagent(0, 0, 100, 9);
                x.reagent(1, 5, 100, 9);
                x.rack(0, 1, 0, 100);
                x.forbid(succession[0], succession[1]);
                x.order(1, 0, false);
                x.order(1, 1, false);
                dueSteps(x, 0, -1, 1);
            }
        });
        CHECK.edge("forbid ... or back: it is allowed again", () -> {
            SampleAnalyser x = kinds(3, 3);
            x.forbid(0, 1);
            x.forbid(0, 1);
            x.order(1, 0, false);
            x.order(1, 1, false);
            dueSteps(x, 0, 1);
        });
    }

    private static void whatWasGiven() {
        CHECK.edge("also of what the arm gave last and the first one booked", () -> {
            SampleAnalyser x = kinds(1, 1);
            x.forbid(0, 1);
            x.order(1, 0, false);
            dueSteps(x, 0);
            x.order(1, 1, false);
            dueSteps(x, -1, 1);
        });
        CHECK.edge("... with a step between", () -> {
            SampleAnalyser x = kinds(1, 2);
            x.forbid(0, 1);
            x.order(1, 0, false);
            dueSteps(x, 0);
            x.order(1, 1, false);
            dueSteps(x, 1);
        });
        CHECK.edge("... of the other succession", () -> {
            SampleAnalyser x = kinds(1, 1);
            x.forbid(1, 0);
            x.order(1, 0, false);
            dueSteps(x, 0);
            x.order(1, 1, false);
            dueSteps(x, 1);
        });
        CHECK.edge("... it counts by its step, however long ago that was", () -> {
            SampleAnalyser x = kinds(1, 1);
            x.forbid(0, 1);
            x.order(1, 0, false);
            dueSteps(x, 0, -1, -1, -1, -1);
            x.order(1, 1, false);
            dueSteps(x, 1);
        });
        CHECK.edge("a use that was a MISS was given", () -> {
            SampleAnalyser x = kinds(1, 1);
            x.forbid(0, 1);
            x.rack(1, 2, 0, 10);
            x.order(2, 0, false);
            x.spoil(1);
            dueSteps(x, 0);
            x.order(1, 1, false);
            dueSteps(x, -1);
            CHECK.due("the one that missed has no sample any more", x.state(0, 1), 1);
            dueSteps(x, 1);
        });
    }

    private static void pairsMadeWrong() {
        CHECK.edge("all that is booked then is looked at (also pairs that forbid() made wrong "
                + "behind their booking)", () -> {
            SampleAnalyser x = kinds(4, 4, 9);
            x.order(1, 0, false);
            x.order(1, 1, false);
            dueSteps(x, 0, 1);
            x.forbid(0, 1);
            x.order(1, 2, false);
            // Kind 0 is given in step 5, kind 1 in step 6: till then they are a pair.
            dueSteps(x, -1, -1, -1, 2);
        });
        CHECK.edge("... and given all the same", () -> {
            SampleAnalyser x = kinds(4, 4);
            x.order(1, 0, false);
            x.order(1, 1, false);
            dueSteps(x, 0, 1);
            x.forbid(0, 1);
            Setup.steps(x, 3);
            CHECK.due("cuvette(0, 2)", x.cuvette(0, 2), 20);
            CHECK.due("cuvette(1, 2)", x.cuvette(1, 2), 10);
            x.step();
            CHECK.due("cuvette(1, 2)", x.cuvette(1, 2), 20);
        });
        CHECK.edge("... till forbid() turns it back", () -> {
            SampleAnalyser x = kinds(4, 4, 9);
            x.order(1, 0, false);
            x.order(1, 1, false);
            dueSteps(x, 0, 1);
            x.forbid(0, 1);
            x.order(1, 2, false);
            dueSteps(x, -1);
            x.forbid(0, 1);
            dueSteps(x, 2);
        });
        CHECK.edge("... by a run that books nothing, too", () -> {
            SampleAnalyser x = kinds(4, 4);
            Setup.plain(x, 2);
            x.order(1, 0, false);
            x.order(1, 1, false);
            dueSteps(x, 0, 1);
            x.forbid(0, 1);
            x.order(1, 2, false);
            dueSteps(x, -1, -1, -1, 2);
        });
        CHECK.edge("a run that breaks off has no bookings any more: behind a clot", () -> {
            SampleAnalyser x = kinds(3, 2);
            x.order(1, 0, false);
            x.spoil(0);
            dueSteps(x, 0);
            x.order(1, 1, true);
            dueSteps(x, 1);
        });
        CHECK.edge("a run that breaks off has no bookings any more: behind a miss", () -> {
            SampleAnalyser x = pairs(1, 4, 2, 3);
            x.rack(1, 2, 0, 10);
            int broken = x.order(2, 0, true);
            x.spoil(1);
            dueSteps(x, broken);
            x.order(1, 1, true);
            // In step 2 this one takes step 5, which was booked for the second reagent of the one that breaks off.
            dueSteps(x, 3);
        });
        CHECK.edge("a run that breaks off has no bookings any more: other runs have theirs", () -> {
            SampleAnalyser x = kinds(4, 1, 2);
            x.rack(1, 2, 0, 10);
            x.order(1, 0, false);
            x.order(2, 1, false);
            dueSteps(x, 0, 1);
            x.spoil(1);
            x.order(1, 2, false);
            // Kind 1 misses in step 3; step 5, which kind 2 would take then, is still the one of kind 0.
            dueSteps(x, -1, 2, -1);
            CHECK.due("cuvette(0, 2)", x.cuvette(0, 2), 20);
        });
    }

    private static void who() {
        CHECK.edge("the first one that CAN START: one without a booking lets others start", () -> {
            SampleAnalyser x = kinds(3, 2, 5);
            x.order(1, 0, true);
            x.order(1, 1, true);
            x.order(1, 2, false);
            dueSteps(x, 0, 2, 1);
        });
        CHECK.edge("the steps of its reagents: late in an object's life, too", () -> {
            for (int before = 0; before < 40; before++) {
                dueLate(before);
            }
            dueLate(400);
        });
        CHECK.edge("a run without reagents needs no booking", () -> {
            SampleAnalyser x = kinds(1, 1);
            Setup.plain(x, 3);
            x.order(1, 0, false);
            x.order(1, 0, false);
            x.order(1, 3, false);
            dueSteps(x, 0, 1, 2);
        });
    }

    /** A taken step, a forbidden succession among what is booked and one behind what was given, behind idle steps. */
    private static void dueLate(int idleSteps) {
        SampleAnalyser x = kinds(11, 10, 1);
        x.forbid(0, 1);
        x.forbid(1, 2);
        Setup.steps(x, idleSteps);
        x.order(1, 0, false);
        x.order(1, 1, false);
        // Kind 0 has step 12; kind 1 would have 12, then 13 just behind it, and has 14.
        dueSteps(x, 0, -1, -1, 1);
        Setup.steps(x, 9);
        x.order(1, 2, false);
        // In step 14 kind 1 is given, and kind 2 would follow it at once.
        dueSteps(x, -1, 2);
        CHECK.due("volume(1, 0)", x.volume(1, 0), 9990);
        CHECK.due("volume(1, 1)", x.volume(1, 1), 9990);
    }
}
