/** Promises 8 (forbid), 10 (clock), 11 (light) and 12 (spoil): what they take and what they do. */
public final class InputsTest {
    private static final int MIN = Integer.MIN_VALUE;
    private static final int MAX = Integer.MAX_VALUE;
    private static final Check CHECK = new Check();

    public static void main(String[] args) {
        forbidden();
        minutes();
        expiry();
        expiryOfWhatIsReserved();
        counts();
        absorbances();
        arms();
        CHECK.end();
    }

    private static void forbidden() {
        SampleAnalyser x = new SampleAnalyser();
        for (int first = 0; first < 6; first++) {
            for (int then = 0; then < 6; then++) {
                CHECK.due("forbid(" + first + ", " + then + ")", x.forbid(first, then), true);
            }
        }
        CHECK.due("forbid(2, 3) back", x.forbid(2, 3), false);
        CHECK.due("forbid(3, 2) back", x.forbid(3, 2), false);
        CHECK.due("forbid(2, 3) again", x.forbid(2, 3), true);
        CHECK.due("forbid(4, 4) back", x.forbid(4, 4), false);
        for (int wrong : new int[] {-1, 6, MIN, MAX}) {
            CHECK.refusesArgument("forbid(" + wrong + ", 0)", () -> x.forbid(wrong, 0));
            CHECK.refusesArgument("forbid(0, " + wrong + ")", () -> x.forbid(0, wrong));
        }
    }

    private static void minutes() {
        SampleAnalyser x = new SampleAnalyser();
        CHECK.refusesArgument("clock(-1)", () -> x.clock(-1));
        CHECK.refusesArgument("clock(least)", () -> x.clock(MIN));
        x.clock(0);
        x.clock(7);
        x.clock(7);
        CHECK.refusesArgument("clock(6)", () -> x.clock(6));
        x.clock(MAX);
        CHECK.refusesArgument("clock(7)", () -> x.clock(7));
        x.clock(MAX);
    }

    private static void expiry() {
        SampleAnalyser x = new SampleAnalyser();
        Setup.withReagent(x, 0, 2, 40, 1);
        x.rack(0, 1, 0, 100);
        x.reagent(0, 2, 1000, 10);
        x.order(1, 0, false);
        x.clock(9);
        CHECK.due("step() in the minute before", x.step(), 0);
        x.order(1, 0, false);
        x.clock(10);
        CHECK.due("step() in the minute", x.step(), -1);
        CHECK.due("reason", x.state(1, 1), 2);
    }

    private static void expiryOfWhatIsReserved() {
        SampleAnalyser x = new SampleAnalyser();
        Setup.withReagent(x, 0, 2, 40, 1);
        x.rack(0, 1, 0, 100);
        x.reagent(0, 2, 1000, 10);
        x.order(1, 0, false);
        x.step();
        x.clock(50);
        x.step();
        CHECK.due("given though it has expired", x.volume(1, 0), 960);
        CHECK.due("in the cuvette", x.cuvette(0, 2), 50);
    }

    private static void counts() {
        SampleAnalyser x = new SampleAnalyser();
        x.light(1);
        x.light(65535);
        for (int wrong : new int[] {-1, 0, 65536, MIN, MAX}) {
            CHECK.refusesArgument("light(" + wrong + ")", () -> x.light(wrong));
        }
    }

    private static void absorbances() {
        CHECK.due("of the first light", valueOf(0), 1);
        CHECK.due("of 65535", valueOf(65535), 1);
        for (int bit = 0; bit < 16; bit++) {
            CHECK.due("of 2^" + bit, valueOf(1 << bit), 16384 - 1024 * bit);
        }
        // Counts for which each rounding down, and 65536 itself, decide a bit; worked out apart from the program.
        int[][] known = {
            {3, 14762}, {7, 13510}, {27, 11515}, {83, 9856}, {255, 8198}, {4543, 3943}, {9795, 2808}, {12345, 2467},
            {34756, 938}, {40804, 701}, {46340, 513}, {46341, 512}, {48623, 442}, {65534, 1}};
        for (int[] pair : known) {
            CHECK.due("of " + pair[0], valueOf(pair[0]), pair[1]);
        }
        CHECK.due("of 1000", valueOf(1000), 6180);
    }

    /** The value of a plain run in a light; 0 leaves the light as it is at first. */
    private static int valueOf(int counts) {
        SampleAnalyser x = new SampleAnalyser();
        Setup.plain(x, 0);
        x.rack(0, 1, 0, 100);
        x.order(1, 0, false);
        if (counts != 0) {
            x.light(counts);
        }
        Setup.steps(x, 3);
        return x.state(0, 5);
    }

    private static void arms() {
        SampleAnalyser x = new SampleAnalyser();
        x.spoil(0);
        x.spoil(1);
        for (int wrong : new int[] {-1, 2, MIN, MAX}) {
            CHECK.refusesArgument("spoil(" + wrong + ")", () -> x.spoil(wrong));
        }
    }
}
