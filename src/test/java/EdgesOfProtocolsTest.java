/** The edges of promises 2 (define), 3 (curve) and 4 (seal), and of the TESTS, FIELDS and CURVES under 'Terms'. */
public final class EdgesOfProtocolsTest {
    private static final int MIN = Check.MIN;
    private static final int MAX = Check.MAX;
    private static final Check CHECK = new Check();

    public static void main(String[] args) {
        fields();
        fieldsAtFirst();
        define();
        points();
        curve();
        sealing();
        sealingOfCurves();
        seal();
        CHECK.end();
    }

    // ---- the bounds of fields ----

    private static void fields() {
        CHECK.edge("0 the SAMPLE's volume (1 .. 500), 0 too", () -> bounds(0, 0, 500));
        CHECK.edge("1 the first reagent's KIND (0 .. 5; -1 none)", () -> bounds(1, -1, 5));
        CHECK.edge("2 its volume (1 .. 2000), 0 too", () -> bounds(2, 0, 2000));
        CHECK.edge("3 at which AGE it is given (1 .. 12), 0 too", () -> bounds(3, 0, 12));
        CHECK.edge("4 the second one's kind likewise", () -> bounds(4, -1, 5));
        CHECK.edge("5 the second one's volume likewise", () -> bounds(5, 0, 2000));
        CHECK.edge("6 the second one's age likewise", () -> bounds(6, 0, 12));
        CHECK.edge("7 the first age of READINGS (1 .. 12), 0 too", () -> bounds(7, 0, 12));
        CHECK.edge("8 the last age of READINGS (1 .. 12), 0 too", () -> bounds(8, 0, 12));
        CHECK.edge("9 the FORMULA: 0 END, 1 RATE, 2 DIFFERENCE", () -> bounds(9, 0, 2));
        CHECK.edge("10 the low LIMIT (any number)", () -> anyNumber(10));
        CHECK.edge("11 the high LIMIT (any number)", () -> anyNumber(11));
        CHECK.edge("12 the RULE: 0 none, 1 REPEAT, 2 DILUTE", () -> bounds(12, 0, 2));
        CHECK.edge("13 the DILUTION (2 .. 10)", () -> bounds(13, 2, 10));
        CHECK.edge("14 the mean is any number", () -> anyNumber(14));
        CHECK.edge("15 the deviation (1 .. 1000000)", () -> bounds(15, 1, 1000000));
    }

    private static void bounds(int field, int least, int most) {
        SampleAnalyser x = new SampleAnalyser();
        for (int right : new int[] {least, least + 1, most - 1, most}) {
            CHECK.takes("define(0, " + field + ", " + right + ")", () -> x.define(0, field, right));
        }
        for (int wrong : new int[] {least - 1, most + 1, MIN, MAX}) {
            CHECK.refusesArgument("define(0, " + field + ", " + wrong + ")", () -> x.define(0, field, wrong));
        }
    }

    private static void anyNumber(int field) {
        SampleAnalyser x = new SampleAnalyser();
        for (int right : new int[] {MIN, -1, 0, 1, MAX}) {
            CHECK.takes("define(0, " + field + ", " + right + ")", () -> x.define(0, field, right));
        }
    }

    // ---- what fields are at first ----

    private static void fieldsAtFirst() {
        CHECK.edge("at first the sample is 0", () -> lacks(0));
        CHECK.edge("at first the kinds are -1", EdgesOfProtocolsTest::noKinds);
        CHECK.edge("at first the first volume is 0", () -> lacks(2));
        CHECK.edge("at first the first age is 0", () -> lacks(3));
        CHECK.edge("at first the second volume is 0", () -> lacks(5));
        CHECK.edge("at first the second age is 0", () -> lacks(6));
        CHECK.edge("at first the first reading is 0", EdgesOfProtocolsTest::noFirstReading);
        CHECK.edge("at first the last reading is 0", () -> lacks(8));
        CHECK.edge("at first the formula is 0", EdgesOfProtocolsTest::firstFormula);
        CHECK.edge("at first the limits are 0", EdgesOfProtocolsTest::firstLimits);
        CHECK.edge("at first the rule is 0", EdgesOfProtocolsTest::firstRule);
        CHECK.edge("at first the dilution is 2", EdgesOfProtocolsTest::firstDilution);
        CHECK.edge("at first the mean is 0 and the deviation 1", EdgesOfProtocolsTest::firstMeanAndDeviation);
        CHECK.edge("a new test is not SEALED", EdgesOfProtocolsTest::notSealedAtFirst);
    }

    /** A protocol in which each field from 0 to 8 matters, all but one of them defined. */
    private static void lacks(int left) {
        int[] values = {20, 0, 100, 2, 1, 50, 3, 5, 7};
        SampleAnalyser x = new SampleAnalyser();
        Setup.curve(x, 0, 0, 0, 10, 10);
        for (int field = 0; field < values.length; field++) {
            if (field != left) {
                x.define(0, field, values[field]);
            }
        }
        CHECK.due("seal(0) without field " + left, x.seal(0), false);
        x.define(0, left, values[left]);
        CHECK.due("seal(0) with it", x.seal(0), true);
    }

    private static void noKinds() {
        SampleAnalyser x = new SampleAnalyser();
        Setup.plain(x, 0);
        x.rack(0, 1, 0, 10);
        x.order(1, 0, false);
        CHECK.due("step() with no reagent in any position", x.step(), 0);
    }

    private static void noFirstReading() {
        SampleAnalyser x = new SampleAnalyser();
        Setup.define(x, 0, 0, 10, 8, 1);
        Setup.curve(x, 0, 0, 0, 10, 10);
        CHECK.due("seal(0)", x.seal(0), false);
    }

    /** Of a test with readings at ages 1 and 2 and nothing else but a curve, the value behind two lights. */
    private static SampleAnalyser bare(int kind, int firstLight, int secondLight, int... curve) {
        SampleAnalyser x = new SampleAnalyser();
        Setup.define(x, 0, 0, 2, 7, 1, 8, 2);
        Setup.curve(x, 0, curve);
        x.seal(0);
        x.rack(0, 1, kind, 100);
        x.order(1, 0, false);
        x.step();
        Setup.lightOf(x, firstLight);
        x.step();
        Setup.lightOf(x, secondLight);
        Setup.steps(x, 2);
        return x;
    }

    private static void firstFormula() {
        CHECK.due("END of two", bare(0, 1, 4, 0, 0, 16384, 16384).state(0, 5), 4096);
    }

    private static void firstLimits() {
        CHECK.due("flags of -1", bare(0, 1, 1, 1024, -1, 2048, 0).state(0, 6), 1);
        CHECK.due("flags of 0", bare(0, 1, 2, 1024, -1, 2048, 0).state(0, 6), 0);
        CHECK.due("flags of 1", bare(0, 1, 3, 1024, -1, 2048, 0).state(0, 6), 2);
    }

    private static void firstRule() {
        SampleAnalyser x = bare(0, 1, 3, 1024, -1, 2048, 0);
        CHECK.due("HIGH is released", x.state(0, 0), 2);
        CHECK.due("behind one run", x.state(0, 2), 1);
    }

    private static void firstDilution() {
        SampleAnalyser x = new SampleAnalyser();
        Setup.define(x, 0, 0, 2, 7, 1, 8, 1, 12, Setup.DILUTE);
        Setup.curve(x, 0, 0, 0, 16384, 16384);
        CHECK.due("2 divides 2", x.seal(0), true);
        x.rack(0, 1, 0, 3);
        x.order(1, 0, false);
        CHECK.row("step()", new int[] {0, -1, 0, -1, -1}, x::step);
        CHECK.due("2 times 1", x.state(0, 5), 2);
        CHECK.due("a sample of 2, then of 1", x.volume(0, 0), 0);
    }

    private static void firstMeanAndDeviation() {
        CHECK.due("rules of 3", bare(1, 1, 5, 1024, -1, 2048, 0).rules(0), 0);
        CHECK.due("rules of 4", bare(1, 1, 6, 1024, -1, 2048, 0).rules(0), 1);
        CHECK.due("rules of -3", bare(1, 1, 5, 1024, 1, 2048, 0).rules(0), 0);
        CHECK.due("rules of -4", bare(1, 1, 6, 1024, 1, 2048, 0).rules(0), 1);
    }

    private static void notSealedAtFirst() {
        for (int test = 0; test < 4; test++) {
            int t = test;
            SampleAnalyser x = new SampleAnalyser();
            CHECK.refusesState("order of a new test " + t, () -> x.order(1, t, false));
            Setup.define(x, t, 0, 10, 7, 1, 8, 1);
            Setup.curve(x, t, 0, 0, 1, 1);
            CHECK.refusesState("order of what is right, but not sealed", () -> x.order(1, t, false));
            x.seal(t);
            CHECK.due("order of what is sealed", x.order(1, t, false), 0);
        }
    }

    // ---- promise 2 ----

    private static void define() {
        CHECK.edge("define: no such test", () -> {
            SampleAnalyser x = new SampleAnalyser();
            CHECK.takes("define(0, 0, 1)", () -> x.define(0, 0, 1));
            CHECK.takes("define(3, 0, 1)", () -> x.define(3, 0, 1));
            for (int wrong : new int[] {-1, 4, MIN, MAX}) {
                CHECK.refusesArgument("define(" + wrong + ", 0, 1)", () -> x.define(wrong, 0, 1));
            }
        });
        CHECK.edge("define: no such field", () -> {
            SampleAnalyser x = new SampleAnalyser();
            CHECK.takes("define(0, 0, 2)", () -> x.define(0, 0, 2));
            CHECK.takes("define(0, 15, 2)", () -> x.define(0, 15, 2));
            for (int wrong : new int[] {-1, 16, MIN, MAX}) {
                CHECK.refusesArgument("define(0, " + wrong + ", 2)", () -> x.define(0, wrong, 2));
            }
        });
        CHECK.edge("the test is not sealed then", EdgesOfProtocolsTest::anyDefineUnseals);
        CHECK.edge("a field of a test's protocol: other tests stay sealed", EdgesOfProtocolsTest::othersStaySealed);
        CHECK.edge("define: IllegalStateException if an order for it is waiting", EdgesOfProtocolsTest::whileWaiting);
        CHECK.edge("define: ... or running", EdgesOfProtocolsTest::whileRunning);
        CHECK.edge("define: ... which it is no more when it has failed", EdgesOfProtocolsTest::whenFailed);
        CHECK.edge("define: an order that waits again is waiting", EdgesOfProtocolsTest::whileWaitingAgain);
        CHECK.edge("define: an order for another test does not matter", EdgesOfProtocolsTest::whileAnotherIsOrdered);
    }

    private static void anyDefineUnseals() {
        int[] asTheyAre = {10, -1, 0, 0, -1, 0, 0, 1, 1, 0, 0, 20000, 0, 2, 0, 1};
        for (int field = 0; field < asTheyAre.length; field++) {
            SampleAnalyser x = new SampleAnalyser();
            Setup.plain(x, 0);
            x.define(0, field, asTheyAre[field]);
            CHECK.refusesState("order behind define of field " + field, () -> x.order(1, 0, false));
        }
    }

    private static void othersStaySealed() {
        SampleAnalyser x = new SampleAnalyser();
        Setup.plain(x, 0);
        Setup.plain(x, 1);
        x.define(0, 0, 0);
        CHECK.due("order of test 1", x.order(1, 1, false), 0);
        CHECK.refusesState("order of test 0", () -> x.order(1, 0, false));
    }

    private static void whileWaiting() {
        SampleAnalyser x = new SampleAnalyser();
        Setup.plain(x, 0);
        CHECK.takes("define without an order", () -> x.define(0, 0, 10));
        x.seal(0);
        x.order(1, 0, false);
        CHECK.refusesState("define", () -> x.define(0, 0, 11));
        CHECK.refusesArgument("define of what is not within", () -> x.define(0, 0, 501));
        CHECK.due("the test is still sealed", x.order(1, 0, false), 1);
        x.rack(0, 1, 0, 100);
        x.step();
        CHECK.due("the sample is what it was", x.volume(0, 0), 90);
    }

    private static void whileRunning() {
        SampleAnalyser x = new SampleAnalyser();
        Setup.plain(x, 0);
        x.rack(0, 1, 0, 100);
        x.order(1, 0, false);
        x.step();
        CHECK.refusesState("define at age 0", () -> x.define(0, 0, 11));
        x.step();
        CHECK.refusesState("define at the last age", () -> x.define(0, 0, 11));
        x.step();
        CHECK.takes("define when it is released", () -> x.define(0, 0, 11));
    }

    private static void whenFailed() {
        SampleAnalyser x = new SampleAnalyser();
        Setup.plain(x, 0);
        x.rack(0, 1, 0, 9);
        x.order(1, 0, false);
        CHECK.refusesState("define ahead of the step", () -> x.define(0, 0, 11));
        x.step();
        CHECK.takes("define behind it", () -> x.define(0, 0, 11));
    }

    private static void whileWaitingAgain() {
        SampleAnalyser x = new SampleAnalyser();
        Setup.plain(x, 0);
        x.rack(0, 1, 0, 100);
        x.order(1, 0, false);
        x.spoil(0);
        x.step();
        CHECK.refusesState("define behind a clot", () -> x.define(0, 0, 11));
        CHECK.refusesState("curve behind a clot", () -> x.curve(0, 20000, 20000));
    }

    private static void whileAnotherIsOrdered() {
        SampleAnalyser x = new SampleAnalyser();
        Setup.plain(x, 0);
        Setup.plain(x, 3);
        x.order(1, 0, false);
        CHECK.takes("define(3, 0, 11)", () -> x.define(3, 0, 11));
        CHECK.takes("curve(3, 20000, 20000)", () -> x.curve(3, 20000, 20000));
        CHECK.refusesState("define(0, 0, 11)", () -> x.define(0, 0, 11));
    }

    // ---- promise 3 ----

    private static void points() {
        CHECK.edge("x: -1000000 .. 1000000", () -> {
            SampleAnalyser x = new SampleAnalyser();
            for (int wrong : new int[] {-1000001, 1000001, MIN, MAX}) {
                CHECK.refusesArgument("curve(0, " + wrong + ", 0)", () -> x.curve(0, wrong, 0));
            }
            CHECK.due("curve(0, -1000000, 0)", x.curve(0, -1000000, 0), 1);
            CHECK.due("curve(0, 1000000, 1)", x.curve(0, 1000000, 1), 2);
        });
        CHECK.edge("value: -1000000 .. 1000000", () -> {
            SampleAnalyser x = new SampleAnalyser();
            for (int wrong : new int[] {-1000001, 1000001, MIN, MAX}) {
                CHECK.refusesArgument("curve(0, 0, " + wrong + ")", () -> x.curve(0, 0, wrong));
            }
            CHECK.due("curve(0, 0, -1000000)", x.curve(0, 0, -1000000), 1);
            CHECK.due("curve(0, 1, 1000000)", x.curve(0, 1, 1000000), 2);
        });
        CHECK.edge("curve: no such test", () -> {
            SampleAnalyser x = new SampleAnalyser();
            for (int wrong : new int[] {-1, 4, MIN, MAX}) {
                CHECK.refusesArgument("curve(" + wrong + ", 0, 0)", () -> x.curve(wrong, 0, 0));
            }
            CHECK.due("curve(0, 0, 0)", x.curve(0, 0, 0), 1);
            CHECK.due("curve(3, 0, 0)", x.curve(3, 0, 0), 1);
        });
        CHECK.edge("a point more: how many there are", () -> {
            SampleAnalyser x = new SampleAnalyser();
            for (int n = 1; n <= 5; n++) {
                CHECK.due("point " + n, x.curve(1, n, -n), n);
            }
            CHECK.due("the first one of another test", x.curve(2, 1, 1), 1);
        });
    }

    /** A test 0 that is right but for its curve, of which the points 0, 1, .. are given. */
    private static SampleAnalyser withPoints(int points) {
        SampleAnalyser x = new SampleAnalyser();
        Setup.define(x, 0, 0, 10, 7, 1, 8, 1, 11, 20000);
        for (int n = 0; n < points; n++) {
            x.curve(0, n, n);
        }
        return x;
    }

    private static void curve() {
        CHECK.edge("x below the one before: the curve has this point alone", EdgesOfProtocolsTest::pointBelow);
        CHECK.edge("... of which no other point is left", EdgesOfProtocolsTest::pointAlone);
        CHECK.edge("curve: the test is not sealed then", EdgesOfProtocolsTest::pointsUnseal);
        CHECK.edge("curve: IllegalStateException as with define", EdgesOfProtocolsTest::pointWhileOrdered);
        CHECK.edge("... or if there are 5", () -> {
            SampleAnalyser x = withPoints(4);
            CHECK.due("the fifth", x.curve(0, 4, 4), 5);
            CHECK.refusesState("the sixth", () -> x.curve(0, 5, 5));
            CHECK.due("seal(0) with the five", x.seal(0), true);
        });
        CHECK.edge("... (also for an x below)", () -> {
            SampleAnalyser x = withPoints(5);
            CHECK.refusesState("one below the last", () -> x.curve(0, 3, 3));
            CHECK.refusesState("below all of them", () -> x.curve(0, -1000000, 3));
            CHECK.due("seal(0): the five are there", x.seal(0), true);
        });
        CHECK.edge("... or x is that of the last one", () -> {
            for (int points = 1; points <= 5; points++) {
                SampleAnalyser x = withPoints(points);
                int last = points - 1;
                CHECK.refusesState("x of the last of " + points, () -> x.curve(0, last, 100));
                CHECK.refusesState("the very same point", () -> x.curve(0, last, last));
            }
        });
        CHECK.edge("curve: IllegalArgumentException also where it can't be taken", () -> {
            SampleAnalyser x = withPoints(5);
            CHECK.refusesArgument("x with five", () -> x.curve(0, 1000001, 3));
            CHECK.refusesArgument("value with the last x", () -> x.curve(0, 4, -1000001));
            CHECK.refusesArgument("test with five", () -> x.curve(4, 4, 4));
        });
    }

    private static void pointBelow() {
        for (int points = 1; points <= 4; points++) {
            SampleAnalyser x = withPoints(points);
            CHECK.due("just above the last of " + points, x.curve(0, points, points), points + 1);
        }
        for (int points = 1; points <= 4; points++) {
            SampleAnalyser x = withPoints(points);
            CHECK.due("just below the last of " + points, x.curve(0, points - 2, 0), 1);
        }
        SampleAnalyser x = withPoints(4);
        CHECK.due("the x of an earlier point", x.curve(0, 0, 0), 1);
        CHECK.due("behind it", x.curve(0, 1, 1), 2);
    }

    private static void pointAlone() {
        SampleAnalyser x = withPoints(4);
        x.curve(0, -1, 50);
        CHECK.due("seal(0) of one point", x.seal(0), false);
        x.curve(0, 1, 30);
        CHECK.due("seal(0) of two, falling", x.seal(0), true);
        x.rack(0, 1, 0, 10);
        x.order(1, 0, false);
        Setup.steps(x, 3);
        CHECK.due("the value at x = 1", x.state(0, 5), 30);
    }

    private static void pointsUnseal() {
        SampleAnalyser x = withPoints(2);
        x.seal(0);
        x.curve(0, 2, 2);
        CHECK.refusesState("order behind a point more", () -> x.order(1, 0, false));
        SampleAnalyser y = withPoints(2);
        y.seal(0);
        y.curve(0, -1, -1);
        CHECK.refusesState("order behind a point alone", () -> y.order(1, 0, false));
        SampleAnalyser z = withPoints(2);
        z.seal(0);
        CHECK.refusesState("the last x again", () -> z.curve(0, 1, 9));
        CHECK.due("order behind a refused point", z.order(1, 0, false), 0);
    }

    private static void pointWhileOrdered() {
        SampleAnalyser x = withPoints(2);
        x.seal(0);
        x.rack(0, 1, 0, 10);
        x.order(1, 0, false);
        CHECK.refusesState("a point while it waits", () -> x.curve(0, 2, 2));
        CHECK.refusesState("an x below while it waits", () -> x.curve(0, -1, 2));
        CHECK.refusesArgument("a wrong x while it waits", () -> x.curve(0, -1000001, 2));
        x.step();
        CHECK.refusesState("a point while it runs", () -> x.curve(0, 2, 2));
        Setup.steps(x, 2);
        CHECK.due("a point when it is released", x.curve(0, 2, 2), 3);
    }

    // ---- promise 4 and what sealing needs ----

    /** A protocol that is right but for the changes: two reagents at ages 2 and 3, readings from 5 to 7. */
    private static boolean seals(int... changes) {
        SampleAnalyser x = new SampleAnalyser();
        Setup.define(x, 0, 0, 20, 1, 0, 2, 100, 3, 2, 4, 1, 5, 50, 6, 3, 7, 5, 8, 7, 10, -5, 11, 5);
        Setup.curve(x, 0, 0, 0, 10, 10);
        Setup.define(x, 0, changes);
        boolean answer = x.seal(0);
        boolean canOrder = true;
        try {
            x.order(1, 0, false);
        } catch (IllegalStateException e) {
            canOrder = false;
        }
        CHECK.due("it can be ordered", canOrder, answer);
        return answer;
    }

    private static void sealing() {
        CHECK.edge("the sample 1 or more", () -> {
            CHECK.due("0", seals(0, 0), false);
            CHECK.due("1", seals(0, 1), true);
            CHECK.due("500", seals(0, 500), true);
        });
        CHECK.edge("a kind's volume 1 or more, of the first", () -> {
            CHECK.due("0", seals(2, 0), false);
            CHECK.due("1", seals(2, 1), true);
            CHECK.due("2000", seals(2, 2000), true);
        });
        CHECK.edge("a kind's volume 1 or more, of the second", () -> {
            CHECK.due("0", seals(5, 0), false);
            CHECK.due("1", seals(5, 1), true);
            CHECK.due("2000", seals(5, 2000), true);
        });
        CHECK.edge("its age at least 1", () -> {
            CHECK.due("0", seals(3, 0), false);
            CHECK.due("1", seals(3, 1), true);
            CHECK.due("0 of the first one alone", seals(3, 0, 4, -1), false);
            CHECK.due("0 of the second", seals(6, 0), false);
            CHECK.due("0 of both", seals(3, 0, 6, 0), false);
        });
        CHECK.edge("a kind's volume and age: not asked where there is none", () -> {
            CHECK.due("no second one", seals(4, -1, 5, 0, 6, 0), true);
            CHECK.due("no second one, its age behind the readings", seals(4, -1, 6, 12), true);
            CHECK.due("none at all", seals(1, -1, 4, -1, 2, 0, 3, 0, 5, 0, 6, 0), true);
            CHECK.due("none at all, their ages behind the readings", seals(1, -1, 4, -1, 3, 12, 6, 12), true);
        });
        CHECK.edge("the second reagent only with the first one", () -> {
            CHECK.due("the second alone", seals(1, -1), false);
            CHECK.due("the first alone", seals(4, -1), true);
            CHECK.due("kinds 0", seals(1, 0, 4, 0), true);
            CHECK.due("kinds 5", seals(1, 5, 4, 5), true);
        });
        CHECK.edge("the second reagent's age is greater than the first one's", () -> {
            CHECK.due("one less", seals(6, 1), false);
            CHECK.due("the same", seals(6, 2), false);
            CHECK.due("one more", seals(6, 3), true);
        });
        CHECK.edge("reagents' ages are less than the first reading's", () -> {
            CHECK.due("the second one's one less", seals(6, 4), true);
            CHECK.due("the second one's the same", seals(6, 5), false);
            CHECK.due("the second one's one more", seals(6, 6), false);
            CHECK.due("the first one's one less", seals(4, -1, 3, 4), true);
            CHECK.due("the first one's the same", seals(4, -1, 3, 5), false);
            CHECK.due("the first one's one more", seals(4, -1, 3, 6), false);
        });
        CHECK.edge("the first reading 1 or more", () -> {
            CHECK.due("0", seals(1, -1, 4, -1, 7, 0, 8, 3), false);
            CHECK.due("1", seals(1, -1, 4, -1, 7, 1, 8, 3), true);
            CHECK.due("0 and 0", seals(1, -1, 4, -1, 7, 0, 8, 0), false);
        });
        CHECK.edge("... and not behind the last", () -> {
            CHECK.due("one behind it", seals(7, 8), false);
            CHECK.due("the same", seals(7, 7), true);
            CHECK.due("12 and 12", seals(7, 12, 8, 12), true);
            CHECK.due("12 and 11", seals(7, 12, 8, 11), false);
        });
        CHECK.edge("at most 6 ages", () -> {
            CHECK.due("6", seals(8, 10), true);
            CHECK.due("7", seals(8, 11), false);
            CHECK.due("7 to 12", seals(7, 7, 8, 12), true);
            CHECK.due("6 to 12", seals(7, 6, 8, 12), false);
        });
        CHECK.edge("of RATE and DIFFERENCE at least two", () -> {
            CHECK.due("END of one", seals(7, 7, 9, Setup.END), true);
            CHECK.due("RATE of one", seals(7, 7, 9, Setup.RATE), false);
            CHECK.due("RATE of two", seals(7, 6, 9, Setup.RATE), true);
            CHECK.due("RATE of six", seals(8, 10, 9, Setup.RATE), true);
            CHECK.due("DIFFERENCE of one", seals(7, 7, 9, Setup.DIFFERENCE), false);
            CHECK.due("DIFFERENCE of two", seals(7, 6, 9, Setup.DIFFERENCE), true);
            CHECK.due("DIFFERENCE of six", seals(8, 10, 9, Setup.DIFFERENCE), true);
        });
        CHECK.edge("the low limit not above the high one", () -> {
            CHECK.due("one below", seals(10, 4, 11, 5), true);
            CHECK.due("the same", seals(10, 5, 11, 5), true);
            CHECK.due("one above", seals(10, 6, 11, 5), false);
            CHECK.due("the least and the greatest", seals(10, MIN, 11, MAX), true);
            CHECK.due("the greatest and the least", seals(10, MAX, 11, MIN), false);
        });
        CHECK.edge("with DILUTE a sample that the dilution divides without rest", () -> {
            CHECK.due("10 in 20", seals(12, Setup.DILUTE, 13, 10), true);
            CHECK.due("9 in 20", seals(12, Setup.DILUTE, 13, 9), false);
            CHECK.due("9 in 20 with REPEAT", seals(12, Setup.REPEAT, 13, 9), true);
            CHECK.due("9 in 20 without a rule", seals(12, 0, 13, 9), true);
            CHECK.due("2 in 1", seals(12, Setup.DILUTE, 0, 1), false);
            CHECK.due("2 in 2", seals(12, Setup.DILUTE, 0, 2), true);
            CHECK.due("2 in 0", seals(12, Setup.DILUTE, 0, 0), false);
            CHECK.due("2 in 499", seals(12, Setup.DILUTE, 0, 499), false);
            CHECK.due("2 in 500", seals(12, Setup.DILUTE, 0, 500), true);
        });
    }

    private static boolean sealsCurve(int... values) {
        SampleAnalyser x = new SampleAnalyser();
        Setup.define(x, 1, 0, 10, 7, 1, 8, 1);
        for (int n = 0; n < values.length; n++) {
            x.curve(1, n, values[n]);
        }
        return x.seal(1);
    }

    private static void sealingOfCurves() {
        CHECK.edge("sealing needs a curve of 2 .. 5 points", () -> {
            CHECK.due("none", sealsCurve(), false);
            CHECK.due("1", sealsCurve(1), false);
            CHECK.due("2", sealsCurve(1, 2), true);
            CHECK.due("3", sealsCurve(1, 2, 3), true);
            CHECK.due("4", sealsCurve(1, 2, 3, 4), true);
            CHECK.due("5", sealsCurve(1, 2, 3, 4, 5), true);
        });
        CHECK.edge("values rising all along", () -> {
            CHECK.due("by one", sealsCurve(-2, -1, 0, 1, 2), true);
            CHECK.due("level at first", sealsCurve(1, 1, 2), false);
            CHECK.due("level at last", sealsCurve(1, 2, 3, 4, 4), false);
            CHECK.due("falling at first", sealsCurve(1, 0, 1, 2, 3), false);
            CHECK.due("falling in the middle", sealsCurve(1, 2, 1, 2, 3), false);
            CHECK.due("falling at last", sealsCurve(1, 2, 3, 4, 3), false);
            CHECK.due("by the most", sealsCurve(-1000000, 1000000), true);
        });
        CHECK.edge("values falling all along", () -> {
            CHECK.due("by one", sealsCurve(2, 1, 0, -1, -2), true);
            CHECK.due("level", sealsCurve(1, 1), false);
            CHECK.due("level at last", sealsCurve(5, 4, 3, 2, 2), false);
            CHECK.due("rising at first", sealsCurve(1, 2, 1, 0, -1), false);
            CHECK.due("rising at last", sealsCurve(5, 4, 3, 2, 3), false);
            CHECK.due("by the most", sealsCurve(1000000, -1000000), true);
        });
    }

    private static void seal() {
        CHECK.edge("seal: no such test", () -> {
            SampleAnalyser x = new SampleAnalyser();
            for (int wrong : new int[] {-1, 4, MIN, MAX}) {
                CHECK.refusesArgument("seal(" + wrong + ")", () -> x.seal(wrong));
            }
            CHECK.due("seal(0)", x.seal(0), false);
            CHECK.due("seal(3)", x.seal(3), false);
        });
        CHECK.edge("(false: it is not sealed)", () -> {
            SampleAnalyser x = new SampleAnalyser();
            Setup.plain(x, 0);
            x.define(0, 0, 0);
            CHECK.due("seal(0)", x.seal(0), false);
            CHECK.refusesState("order", () -> x.order(1, 0, false));
            x.define(0, 0, 1);
            CHECK.refusesState("order of what is right, but not sealed", () -> x.order(1, 0, false));
            CHECK.due("seal(0)", x.seal(0), true);
            CHECK.due("order", x.order(1, 0, false), 0);
        });
        CHECK.edge("seals a test: alone", () -> {
            SampleAnalyser x = new SampleAnalyser();
            Setup.plain(x, 2);
            for (int other : new int[] {0, 1, 3}) {
                CHECK.refusesState("order of test " + other, () -> x.order(1, other, false));
            }
            CHECK.due("order of test 2", x.order(1, 2, false), 0);
        });
        CHECK.edge("seal: also of what is sealed, waits and runs", () -> {
            SampleAnalyser x = new SampleAnalyser();
            Setup.plain(x, 0);
            CHECK.due("seal of what is sealed", x.seal(0), true);
            x.rack(0, 1, 0, 10);
            x.order(1, 0, false);
            CHECK.due("seal while it waits", x.seal(0), true);
            x.step();
            CHECK.due("seal while it runs", x.seal(0), true);
            Setup.steps(x, 2);
            CHECK.due("released", x.state(0, 0), 2);
        });
    }
}
