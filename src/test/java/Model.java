import java.math.BigDecimal;
import java.math.BigInteger;
import java.math.RoundingMode;
import java.util.ArrayList;
import java.util.Comparator;
import java.util.List;
import java.util.NoSuchElementException;
import java.util.TreeMap;

/**
 * The document told a second time, with absolute steps, whole numbers of any size and the library's collections,
 * so that a slip in the program is not repeated here.
 */
final class Model {
    private static final class Sample {
        int code;
        int kind;
        int volume;
    }

    private static final class Bottle {
        int kind;
        int volume;
        int expires;
        int reserved;
    }

    private static final class Use {
        int kind;
        int dose;
        int position;
        Run run;
    }

    private static final class Run {
        int startedAt;
        int cuvette;
        int content;
        boolean control;
        List<Use> open = new ArrayList<>();
        List<BigInteger> readings = new ArrayList<>();
        Request request;
    }

    private static final class Request {
        int number;
        int code;
        int test;
        boolean urgent;
        int state;
        int reason;
        int runs;
        boolean diluted;
        int value;
        int flags;
        Run run;
    }

    private static final int[][] BOUNDS = {
        {0, 500}, {-1, 5}, {0, 2000}, {0, 12}, {-1, 5}, {0, 2000}, {0, 12}, {0, 12}, {0, 12}, {0, 2}, null, null,
        {0, 2}, {2, 10}, null, {1, 1000000}};

    private final int[][] fields = new int[4][16];
    private final List<List<int[]>> curves = new ArrayList<>();
    private final List<List<Integer>> histories = new ArrayList<>();
    private final boolean[] sealed = new boolean[4];
    private final Sample[] slots = new Sample[6];
    private final Bottle[] bottles = new Bottle[8];
    private final boolean[][] forbidden = new boolean[6][6];
    private final List<Request> requests = new ArrayList<>();
    private final List<Integer> host = new ArrayList<>();
    private final TreeMap<Integer, Use> bookings = new TreeMap<>();
    private final TreeMap<Integer, Integer> given = new TreeMap<>();
    private final int[] washedSince = new int[10];
    private int now = 0;
    private int minute = 0;
    private int counts = 65535;
    private boolean clot = false;
    private boolean miss = false;
    private int idle = 0;

    Model() {
        for (int t = 0; t < 4; t++) {
            fields[t][1] = -1;
            fields[t][4] = -1;
            fields[t][13] = 2;
            fields[t][15] = 1;
            curves.add(new ArrayList<>());
            histories.add(new ArrayList<>());
        }
        for (int c = 0; c < 10; c++) {
            washedSince[c] = -100;
        }
    }

    private static void argument(boolean ok) {
        if (!ok) {
            throw new IllegalArgumentException();
        }
    }

    private static void state(boolean ok) {
        if (!ok) {
            throw new IllegalStateException();
        }
    }

    private static boolean in(int n, int low, int high) {
        return low <= n && n <= high;
    }

    private boolean openTest(int test) {
        return requests.stream().anyMatch(r -> r.state < 2 && r.test == test);
    }

    void define(int test, int field, int value) {
        argument(in(test, 0, 3) && in(field, 0, 15));
        argument(BOUNDS[field] == null || in(value, BOUNDS[field][0], BOUNDS[field][1]));
        state(!openTest(test));
        fields[test][field] = value;
        sealed[test] = false;
    }

    int curve(int test, int x, int value) {
        argument(in(test, 0, 3) && Math.abs((long) x) <= 1000000 && Math.abs((long) value) <= 1000000);
        List<int[]> points = curves.get(test);
        state(!openTest(test) && points.size() != 5);
        if (!points.isEmpty()) {
            int last = points.get(points.size() - 1)[0];
            state(x != last);
            if (x < last) {
                points.clear();
            }
        }
        points.add(new int[] {x, value});
        sealed[test] = false;
        return points.size();
    }

    boolean seal(int test) {
        argument(in(test, 0, 3));
        sealed[test] = complete(fields[test], curves.get(test));
        return sealed[test];
    }

    private static boolean complete(int[] f, List<int[]> points) {
        boolean ok = f[0] >= 1 && f[7] >= 1 && f[7] <= f[8] && f[8] - f[7] < 6 && f[10] <= f[11];
        for (int k = 1; k <= 4; k += 3) {
            ok &= f[k] < 0 || f[k + 1] >= 1 && f[k + 2] >= 1 && f[k + 2] < f[7];
        }
        ok &= f[4] < 0 || f[1] >= 0 && f[6] > f[3];
        ok &= f[9] == 0 || f[8] > f[7];
        ok &= f[12] != 2 || f[0] % f[13] == 0;
        int rising = 0;
        int falling = 0;
        for (int i = 1; i < points.size(); i++) {
            rising += points.get(i)[1] > points.get(i - 1)[1] ? 1 : 0;
            falling += points.get(i)[1] < points.get(i - 1)[1] ? 1 : 0;
        }
        return ok && points.size() >= 2 && Math.max(rising, falling) == points.size() - 1;
    }

    void rack(int slot, int code, int kind, int volume) {
        argument(in(slot, 0, 5) && in(code, 1, 999999) && in(kind, 0, 1) && in(volume, 0, 100000));
        state(slots[slot] == null && find(code) == null);
        slots[slot] = new Sample();
        slots[slot].code = code;
        slots[slot].kind = kind;
        slots[slot].volume = volume;
    }

    private Sample find(int code) {
        for (Sample s : slots) {
            if (s != null && s.code == code) {
                return s;
            }
        }
        return null;
    }

    int removeRack(int slot) {
        argument(in(slot, 0, 5));
        if (slots[slot] == null) {
            throw new NoSuchElementException();
        }
        int code = slots[slot].code;
        state(requests.stream().noneMatch(r -> r.state < 2 && r.code == code));
        int volume = slots[slot].volume;
        slots[slot] = null;
        return volume;
    }

    void reagent(int position, int kind, int volume, int expires) {
        argument(in(position, 0, 7) && in(kind, 0, 5) && in(volume, 0, 100000) && expires >= 0);
        state(bottles[position] == null || bottles[position].reserved == 0);
        Bottle b = new Bottle();
        b.kind = kind;
        b.volume = volume;
        b.expires = expires;
        bottles[position] = b;
    }

    boolean forbid(int first, int then) {
        argument(in(first, 0, 5) && in(then, 0, 5));
        return forbidden[first][then] ^= true;
    }

    int order(int code, int test, boolean urgent) {
        argument(in(code, 1, 999999) && in(test, 0, 3));
        state(sealed[test] && requests.size() < 40);
        Request r = new Request();
        r.number = requests.size();
        r.code = code;
        r.test = test;
        r.urgent = urgent;
        requests.add(r);
        return r.number;
    }

    void clock(int to) {
        argument(to >= minute);
        minute = to;
    }

    void light(int to) {
        argument(in(to, 1, 65535));
        counts = to;
    }

    void spoil(int arm) {
        argument(arm == 0 || arm == 1);
        clot |= arm == 0;
        miss |= arm == 1;
    }

    int step() {
        now++;
        Use use = bookings.remove(now);
        if (use != null) {
            given.put(now, use.kind);
            if (miss) {
                miss = false;
                broken(use.run, 4);
            } else {
                use.run.open.remove(use);
                use.run.content += use.dose;
                bottles[use.position].volume -= use.dose;
                bottles[use.position].reserved -= use.dose;
            }
        }
        for (Request r : requests) {
            int[] f = fields[r.test];
            if (r.run != null && in(now - r.run.startedAt, f[7], f[8])) {
                r.run.readings.add(absorbance(counts));
            }
        }
        for (Request r : requests) {
            if (r.run != null && now - r.run.startedAt == fields[r.test][8] + 1) {
                judge(r);
            }
        }
        List<Request> waiting = new ArrayList<>(requests);
        waiting.removeIf(r -> r.state != 0);
        waiting.sort(Comparator.comparing((Request r) -> !r.urgent).thenComparing(r -> r.number));
        for (Request r : waiting) {
            if (starts(r)) {
                return r.number;
            }
        }
        idle++;
        return -1;
    }

    private void end(Run run) {
        washedSince[run.cuvette] = now;
        run.request.run = null;
    }

    private void broken(Run run, int reason) {
        for (Use u : run.open) {
            bottles[u.position].reserved -= u.dose;
        }
        bookings.values().removeIf(u -> u.run == run);
        end(run);
        run.request.state = run.request.runs == 1 ? 0 : 3;
        run.request.reason = run.request.runs == 1 ? 0 : reason;
    }

    private boolean starts(Request r) {
        int[] f = fields[r.test];
        Sample sample = find(r.code);
        if (sample == null) {
            return false;
        }
        int volume = r.diluted ? f[0] / f[13] : f[0];
        if (sample.volume < volume) {
            r.state = 3;
            r.reason = 1;
            return false;
        }
        Run run = new Run();
        run.request = r;
        TreeMap<Integer, Use> wanted = new TreeMap<>();
        boolean all = true;
        for (int k = 1; k <= 4; k += 3) {
            if (f[k] >= 0) {
                int position = bottleFor(f[k], f[k + 1]);
                all &= position >= 0;
                if (position >= 0) {
                    bottles[position].reserved += f[k + 1];
                    Use use = new Use();
                    use.kind = f[k];
                    use.dose = f[k + 1];
                    use.position = position;
                    use.run = run;
                    run.open.add(use);
                    wanted.put(now + f[k + 2], use);
                }
            }
        }
        int cuvette = clean();
        if (!all || cuvette < 0 || !bookable(wanted)) {
            for (Use u : run.open) {
                bottles[u.position].reserved -= u.dose;
            }
            r.state = all ? 0 : 3;
            r.reason = all ? 0 : 2;
            return false;
        }
        bookings.putAll(wanted);
        run.startedAt = now;
        run.cuvette = cuvette;
        run.control = sample.kind == 1;
        r.run = run;
        r.runs++;
        r.state = 1;
        if (clot) {
            clot = false;
            broken(run, 3);
        } else {
            sample.volume -= volume;
            run.content = volume;
        }
        return true;
    }

    private int bottleFor(int kind, int dose) {
        int best = -1;
        for (int p = 7; p >= 0; p--) {
            Bottle b = bottles[p];
            if (b != null && b.kind == kind && b.expires > minute && b.volume - b.reserved >= dose
                    && (best < 0 || b.expires <= bottles[best].expires)) {
                best = p;
            }
        }
        return best;
    }

    private int clean() {
        for (int c = 0; c < 10; c++) {
            if (runIn(c) == null && wash(c) == 0) {
                return c;
            }
        }
        return -1;
    }

    private int wash(int c) {
        return Math.max(0, washedSince[c] + 3 - now);
    }

    private Run runIn(int c) {
        for (Request r : requests) {
            if (r.run != null && r.run.cuvette == c) {
                return r.run;
            }
        }
        return null;
    }

    private boolean bookable(TreeMap<Integer, Use> wanted) {
        TreeMap<Integer, Integer> uses = new TreeMap<>();
        if (!given.isEmpty()) {
            uses.put(given.lastKey(), given.lastEntry().getValue());
        }
        bookings.forEach((at, use) -> uses.put(at, use.kind));
        for (int at : wanted.keySet()) {
            if (uses.put(at, wanted.get(at).kind) != null) {
                return false;
            }
        }
        Integer before = null;
        for (int at : uses.keySet()) {
            if (before != null && at - before < 2 && forbidden[uses.get(before)][uses.get(at)]) {
                return false;
            }
            before = at;
        }
        return true;
    }

    private static BigInteger absorbance(int counts) {
        int e = 0;
        while (counts >= 2 << e) {
            e++;
        }
        BigInteger m = BigInteger.valueOf(counts).multiply(BigInteger.TWO.pow(15 - e));
        StringBuilder r = new StringBuilder();
        for (int i = 0; i < 10; i++) {
            m = m.multiply(m).divide(BigInteger.valueOf(32768));
            boolean one = m.compareTo(BigInteger.valueOf(65536)) >= 0;
            r.append(one ? '1' : '0');
            m = one ? m.divide(BigInteger.TWO) : m;
        }
        return BigInteger.valueOf(16384 - 1024 * e).subtract(new BigInteger(r.toString(), 2));
    }

    private static BigInteger rounded(BigInteger dividend, BigInteger divisor) {
        return new BigDecimal(dividend).divide(new BigDecimal(divisor), 60, RoundingMode.HALF_EVEN)
                .add(new BigDecimal("0.5")).setScale(0, RoundingMode.FLOOR).toBigInteger();
    }

    private static BigInteger formula(int which, List<BigInteger> a) {
        BigInteger last = a.get(a.size() - 1);
        if (which == 0) {
            return last;
        }
        if (which == 2) {
            return last.subtract(a.get(0));
        }
        BigInteger n = BigInteger.valueOf(a.size());
        BigInteger si = BigInteger.ZERO;
        BigInteger sii = BigInteger.ZERO;
        BigInteger sa = BigInteger.ZERO;
        BigInteger sia = BigInteger.ZERO;
        for (int k = 0; k < a.size(); k++) {
            BigInteger i = BigInteger.valueOf(k);
            si = si.add(i);
            sii = sii.add(i.multiply(i));
            sa = sa.add(a.get(k));
            sia = sia.add(i.multiply(a.get(k)));
        }
        return rounded(n.multiply(sia).subtract(si.multiply(sa)).multiply(BigInteger.valueOf(1000)),
                n.multiply(sii).subtract(si.multiply(si)));
    }

    private static BigInteger byCurve(List<int[]> points, BigInteger x) {
        int left = 0;
        for (int i = 1; i + 1 < points.size(); i++) {
            if (x.compareTo(BigInteger.valueOf(points.get(i)[0])) >= 0) {
                left = i;
            }
        }
        BigInteger x0 = BigInteger.valueOf(points.get(left)[0]);
        BigInteger x1 = BigInteger.valueOf(points.get(left + 1)[0]);
        BigInteger y0 = BigInteger.valueOf(points.get(left)[1]);
        BigInteger y1 = BigInteger.valueOf(points.get(left + 1)[1]);
        return y0.add(rounded(x.subtract(x0).multiply(y1.subtract(y0)), x1.subtract(x0)));
    }

    private void judge(Request r) {
        int[] f = fields[r.test];
        BigInteger exact = byCurve(curves.get(r.test), formula(f[9], r.run.readings));
        if (r.diluted) {
            exact = exact.multiply(BigInteger.valueOf(f[13]));
        }
        BigInteger most = BigInteger.valueOf(1000000000);
        int value = exact.min(most).max(most.negate()).intValue();
        int flags = (value < f[10] ? 1 : 0) + (value > f[11] ? 2 : 0) + (exact.abs().compareTo(most) > 0 ? 4 : 0)
                + (r.runs == 2 ? 8 : 0) + (r.diluted ? 16 : 0);
        boolean control = r.run.control;
        end(r.run);
        boolean high = (flags & 2) != 0;
        boolean low = (flags & 1) != 0;
        if (!control && r.runs == 1 && (f[12] == 2 && high || f[12] == 1 && (high || low))) {
            r.state = 0;
            r.diluted = f[12] == 2;
            return;
        }
        r.state = 2;
        r.value = value;
        r.flags = flags;
        host.add(r.number);
        if (control) {
            histories.get(r.test).add(0, value);
        }
    }

    int idle() {
        return idle;
    }

    int state(int order, int what) {
        argument(in(order, 0, requests.size() - 1) && in(what, 0, 6));
        Request r = requests.get(order);
        int cuvette = r.run == null ? -1 : r.run.cuvette;
        int age = r.run == null ? -1 : now - r.run.startedAt;
        return new int[] {r.state, r.reason, r.runs, cuvette, age, r.value, r.flags}[what];
    }

    int cuvette(int c, int what) {
        argument(in(c, 0, 9) && in(what, 0, 2));
        Run run = runIn(c);
        return new int[] {run == null ? -1 : run.request.number, wash(c), run == null ? 0 : run.content}[what];
    }

    int volume(int kind, int place) {
        argument(in(kind, 0, 2) && in(place, 0, kind == 0 ? 5 : 7));
        if (kind == 0 ? slots[place] == null : bottles[place] == null) {
            throw new NoSuchElementException();
        }
        return kind == 0 ? slots[place].volume : kind == 1 ? bottles[place].volume : bottles[place].reserved;
    }

    int trend(int test, int i) {
        argument(in(test, 0, 3));
        if (!in(i, 0, Math.min(10, histories.get(test).size()) - 1)) {
            throw new IndexOutOfBoundsException();
        }
        return histories.get(test).get(i);
    }

    int rules(int test) {
        argument(in(test, 0, 3));
        List<Integer> history = histories.get(test);
        long mean = fields[test][14];
        long deviation = fields[test][15];
        int size = Math.min(10, history.size());
        int broken = size > 0 && Math.abs(history.get(0) - mean) > 3 * deviation ? 1 : 0;
        int farUp = 0;
        int farDown = 0;
        int up = 0;
        int down = 0;
        for (int i = 0; i < size; i++) {
            long off = history.get(i) - mean;
            farUp += i < 3 && off > 2 * deviation ? 1 : 0;
            farDown += i < 3 && -off > 2 * deviation ? 1 : 0;
            up += off > 0 ? 1 : 0;
            down += off < 0 ? 1 : 0;
        }
        broken += farUp > 1 || farDown > 1 ? 2 : 0;
        return broken + (up == 10 || down == 10 ? 4 : 0);
    }

    int host(int i) {
        if (!in(i, 0, host.size() - 1)) {
            throw new IndexOutOfBoundsException();
        }
        return host.get(i);
    }

    int took(int n) {
        argument(in(n, 0, host.size()));
        host.subList(0, n).clear();
        return host.size();
    }
}
