import java.util.Arrays;
import java.util.Random;

/** Random runs of at most 512 calls: the program answers as the model does, in each of them, call for call. */
public final class ModelTest {
    private static final int RUNS = 4000;
    private static final int CALLS = 512;
    private static final int KINDS_SEEN = 18;
    private static final String[] NAMES = {
        "define", "curve", "seal", "rack", "removeRack", "reagent", "forbid", "order", "clock", "light", "spoil",
        "step", "idle", "state", "cuvette", "volume", "trend", "rules", "host", "took"};
    private static final int[] ODD = {Integer.MIN_VALUE, -1000001, -1, 0, 1, 2, 65536, 1000000, Integer.MAX_VALUE};

    private final Random random;
    private final SampleAnalyser program = new SampleAnalyser();
    private final Model model = new Model();
    private final Check check;
    private final long seed;
    private final boolean manyControls;
    private int calls = 0;
    private int orders = 0;
    private int minute = 0;

    private ModelTest(long seed, Check check) {
        this.seed = seed;
        this.check = check;
        random = new Random(seed);
        manyControls = seed % 4 == 0;
    }

    public static void main(String[] args) {
        Check check = new Check();
        int[] seen = new int[KINDS_SEEN];
        for (long seed = 1; seed <= RUNS; seed++) {
            ModelTest test = new ModelTest(seed, check);
            test.run();
            test.count(seen);
        }
        System.out.println("seen: " + Arrays.toString(seen));
        for (int kind = 0; kind < KINDS_SEEN; kind++) {
            check.due("enough was seen of kind " + kind, seen[kind] >= 100, true);
        }
        check.end();
    }

    /** States, reasons, second runs, flags and broken rules as the model has them at the end of a run. */
    private void count(int[] seen) {
        for (int order = 0; order < orders; order++) {
            seen[model.state(order, 0)]++;
            seen[4 + model.state(order, 1)]++;
            seen[9] += model.state(order, 2) == 2 ? 1 : 0;
            for (int flag = 0; flag < 5; flag++) {
                seen[10 + flag] += model.state(order, 6) >> flag & 1;
            }
        }
        for (int test = 0; test < 4; test++) {
            for (int rule = 0; rule < 3; rule++) {
                seen[15 + rule] += model.rules(test) >> rule & 1;
            }
        }
    }

    private void run() {
        prepare();
        while (calls < CALLS) {
            if (random.nextInt(3) == 0) {
                call("step");
            } else if (random.nextInt(2) == 0) {
                ask();
            } else {
                disturb();
            }
        }
    }

    private void prepare() {
        for (int test = 0; test < 4; test++) {
            if (random.nextInt(6) != 0) {
                protocol(test);
            }
        }
        for (int slot = 0; slot < 6; slot++) {
            int code = between(0, 9) == 0 ? between(1, 6) : slot + 1;
            call("rack", slot, code, manyControls ? 1 : between(0, 2) / 2, sampleVolume());
        }
        for (int position = 0; position < 8; position++) {
            reagent(position);
        }
        for (int n = between(1, 8); n > 0; n--) {
            order();
        }
    }

    private int sampleVolume() {
        return between(0, 3) == 0 ? between(0, 60) : between(100, 2000);
    }

    private void protocol(int test) {
        int firstKind = between(0, 4) == 0 ? -1 : between(0, 2);
        int secondKind = firstKind < 0 && between(0, 5) != 0 ? -1 : between(-1, 2);
        int firstAge = between(1, 4);
        int secondAge = firstAge + between(between(0, 9) == 0 ? 0 : 1, 3);
        int reading = between(0, 9) == 0 ? between(0, 12) : secondAge + between(1, 2);
        int dilution = between(2, 10);
        int[] values = {
            dilution * between(1, 6), firstKind, between(1, 60), firstAge, secondKind, between(1, 60), secondAge,
            reading, Math.min(12, reading + between(1, 5)), between(0, 2), between(-3000, 6000), between(4000, 20000),
            between(0, 2), dilution, between(0, 12000), between(0, 1) == 0 ? between(1, 3000) : between(1, 1000000)};
        for (int field = 0; field < values.length; field++) {
            call("define", test, field, values[field]);
        }
        points(test);
        call("seal", test);
    }

    private void points(int test) {
        int scale = new int[] {1, 100, 4000, 200000}[between(0, 3)];
        int x = between(-2 * scale, scale);
        int value = between(-5000, 5000);
        int sign = between(0, 1) * 2 - 1;
        for (int n = between(2, 5); n > 0; n--) {
            call("curve", test, x, value);
            x += between(1, scale);
            value += sign * between(between(0, 20) == 0 ? 0 : 1, between(0, 1) == 0 ? 10 : 190000);
        }
    }

    private void reagent(int position) {
        int volume = between(0, 3) == 0 ? between(0, 80) : between(100, 3000);
        call("reagent", position, between(0, 2), volume, between(0, 60));
    }

    private void order() {
        call("order", between(1, 7), manyControls ? between(0, 4) / 4 : between(0, 3), between(0, 3) == 0 ? 1 : 0);
    }

    private void disturb() {
        switch (between(0, 17)) {
            case 0, 1, 2, 3, 4 -> order();
            case 5, 6, 7, 8 -> call("light", between(0, 1) == 0 ? between(1, 65535) : 1 << between(0, 15));
            case 9 -> call("spoil", between(0, 1));
            case 10, 11 -> call("forbid", between(0, 2), between(0, 2));
            case 12 -> reagent(between(0, 7));
            case 13 -> call("rack", between(0, 5), between(1, 7), between(0, 1), between(0, 900));
            case 14 -> call("removeRack", between(0, 5));
            case 15 -> tick();
            case 16 -> call("took", between(0, 3));
            default -> oddCall();
        }
    }

    private void tick() {
        int to = minute + between(-1, 8);
        call("clock", to);
        minute = Math.max(minute, to);
    }

    private void oddCall() {
        String name = NAMES[random.nextInt(NAMES.length)];
        // A clock at the last minute would end all reagents.
        call(name, name.equals("clock") ? between(-9, 0) : odd(), odd(), odd(), odd());
        if (between(0, 9) == 0) {
            call("define", between(0, 3), between(14, 15), between(1, 9000));
            call("seal", between(0, 3));
        }
    }

    private int odd() {
        return between(0, 1) == 0 ? between(-1, 12) : ODD[random.nextInt(ODD.length)];
    }

    private void ask() {
        switch (between(0, 6)) {
            case 0, 1, 2 -> call("state", between(0, orders), between(0, 6));
            case 3 -> call("cuvette", between(0, 9), between(0, 2));
            case 4 -> call("volume", between(0, 2), between(0, 7));
            case 5 -> call(between(0, 1) == 0 ? "rules" : "trend", between(0, 3), between(0, 4));
            default -> call(between(0, 3) == 0 ? "idle" : "host", between(0, 4));
        }
    }

    private int between(int least, int most) {
        return least + random.nextInt(most - least + 1);
    }

    private void call(String name, int... given) {
        if (calls >= CALLS) {
            return;
        }
        calls++;
        int[] a = Arrays.copyOf(given, 4);
        String got = answerOfProgram(name, a);
        String want = answerOfModel(name, a);
        if (!got.equals(want)) {
            System.out.println("seed " + seed + ", call " + calls + ": " + name + Arrays.toString(given)
                    + " answered " + got + ", the model " + want);
        }
        check.due("seed " + seed, got.equals(want), true);
        if (name.equals("order") && got.charAt(0) != 'j') {
            orders++;
        }
    }

    private String answerOfProgram(String name, int[] a) {
        try {
            return Long.toString(askProgram(name, a));
        } catch (RuntimeException e) {
            return e.getClass().getName();
        }
    }

    private String answerOfModel(String name, int[] a) {
        try {
            return Long.toString(askModel(name, a));
        } catch (RuntimeException e) {
            return e.getClass().getName();
        }
    }

    private long askProgram(String name, int[] a) {
        SampleAnalyser x = program;
        switch (name) {
            case "define" -> x.define(a[0], a[1], a[2]);
            case "rack" -> x.rack(a[0], a[1], a[2], a[3]);
            case "reagent" -> x.reagent(a[0], a[1], a[2], a[3]);
            case "clock" -> x.clock(a[0]);
            case "light" -> x.light(a[0]);
            case "spoil" -> x.spoil(a[0]);
            case "curve" -> { return x.curve(a[0], a[1], a[2]); }
            case "seal" -> { return x.seal(a[0]) ? 1 : 0; }
            case "removeRack" -> { return x.removeRack(a[0]); }
            case "forbid" -> { return x.forbid(a[0], a[1]) ? 1 : 0; }
            case "order" -> { return x.order(a[0], a[1], a[2] == 1); }
            case "step" -> { return x.step(); }
            case "idle" -> { return x.idle(); }
            case "state" -> { return x.state(a[0], a[1]); }
            case "cuvette" -> { return x.cuvette(a[0], a[1]); }
            case "volume" -> { return x.volume(a[0], a[1]); }
            case "trend" -> { return x.trend(a[0], a[1]); }
            case "rules" -> { return x.rules(a[0]); }
            case "host" -> { return x.host(a[0]); }
            default -> { return x.took(a[0]); }
        }
        return 0;
    }

    private long askModel(String name, int[] a) {
        Model x = model;
        switch (name) {
            case "define" -> x.define(a[0], a[1], a[2]);
            case "rack" -> x.rack(a[0], a[1], a[2], a[3]);
            case "reagent" -> x.reagent(a[0], a[1], a[2], a[3]);
            case "clock" -> x.clock(a[0]);
            case "light" -> x.light(a[0]);
            case "spoil" -> x.spoil(a[0]);
            case "curve" -> { return x.curve(a[0], a[1], a[2]); }
            case "seal" -> { return x.seal(a[0]) ? 1 : 0; }
            case "removeRack" -> { return x.removeRack(a[0]); }
            case "forbid" -> { return x.forbid(a[0], a[1]) ? 1 : 0; }
            case "order" -> { return x.order(a[0], a[1], a[2] == 1); }
            case "step" -> { return x.step(); }
            case "idle" -> { return x.idle(); }
            case "state" -> { return x.state(a[0], a[1]); }
            case "cuvette" -> { return x.cuvette(a[0], a[1]); }
            case "volume" -> { return x.volume(a[0], a[1]); }
            case "trend" -> { return x.trend(a[0], a[1]); }
            case "rules" -> { return x.rules(a[0]); }
            case "host" -> { return x.host(a[0]); }
            default -> { return x.took(a[0]); }
        }
        return 0;
    }
}
