import java.util.NoSuchElementException;

/** The executive of a blood-sample analyser; its promises are numbered in the project's document. */
public final class SampleAnalyser {
    private static final int NONE = -1;
    private static final int TESTS = 4;
    private static final int SLOTS = 6;
    private static final int POSITIONS = 8;
    private static final int KINDS = 6;
    private static final int CUVETTES = 10;
    private static final int MOST_ORDERS = 40;
    private static final int MOST_READINGS = 6;
    private static final int DOSES = 2;
    private static final int LAST_AGE = 12;
    private static final int MOST_CODE = 999999;
    private static final int MOST_VOLUME = 100000;
    private static final int MOST_COUNTS = 65535;
    private static final long MOST_VALUE = 1000000000;

    private static final int SAMPLE_ARM = 0;
    private static final int REAGENT_ARM = 1;

    private static final int WAITING = 0;
    private static final int RUNNING = 1;
    private static final int RELEASED = 2;
    private static final int FAILED = 3;

    private static final int SAMPLE_SHORT = 1;
    private static final int REAGENT_SHORT = 2;
    private static final int CLOT = 3;
    private static final int MISS = 4;

    private static final int LOW = 1;
    private static final int HIGH = 2;
    private static final int RANGE = 4;
    private static final int SECOND_RUN = 8;
    private static final int DILUTED = 16;

    private final Protocol[] protocols = new Protocol[TESTS];
    private final Slot[] slots = new Slot[SLOTS];
    private final Position[] positions = new Position[POSITIONS];
    private final Cuvette[] cuvettes = new Cuvette[CUVETTES];
    private final Order[] orders = new Order[MOST_ORDERS];
    private final ReagentArm arm = new ReagentArm();
    private final HostQueue queue = new HostQueue();
    private int orderCount = 0;
    private int minute = 0;
    private int counts = MOST_COUNTS;
    private boolean clotIsDue = false;
    private boolean missIsDue = false;
    private int idleSteps = 0;

    public SampleAnalyser() {
        for (int i = 0; i < TESTS; i++) {
            protocols[i] = new Protocol();
        }
        for (int i = 0; i < SLOTS; i++) {
            slots[i] = new Slot();
        }
        for (int i = 0; i < POSITIONS; i++) {
            positions[i] = new Position();
        }
        for (int i = 0; i < CUVETTES; i++) {
            cuvettes[i] = new Cuvette();
        }
        for (int i = 0; i < MOST_ORDERS; i++) {
            orders[i] = new Order();
        }
    }

    // ---- tests and their protocols ----

    public void define(int test, int field, int value) throws IllegalArgumentException, IllegalStateException {
        demandArgument(isWithin(test, 0, TESTS - 1) && Protocol.accepts(field, value));
        demandState(!isOrdered(test));
        Protocol protocol = protocols[test];
        protocol.fields[field] = value;
        protocol.sealed = false;
    }

    public int curve(int test, int x, int value) throws IllegalArgumentException, IllegalStateException {
        demandArgument(isWithin(test, 0, TESTS - 1) && Curve.accepts(x) && Curve.accepts(value));
        Protocol protocol = protocols[test];
        demandState(!isOrdered(test) && protocol.points.takes(x));
        protocol.points.add(x, value);
        protocol.sealed = false;
        return protocol.points.size;
    }

    public boolean seal(int test) throws IllegalArgumentException {
        demandArgument(isWithin(test, 0, TESTS - 1));
        Protocol protocol = protocols[test];
        protocol.sealed = protocol.isComplete();
        return protocol.sealed;
    }

    // ---- racks, reagents, orders ----

    public void rack(int slot, int code, int kind, int volume) throws IllegalArgumentException, IllegalStateException {
        demandArgument(isWithin(slot, 0, SLOTS - 1) && isWithin(code, 1, MOST_CODE));
        demandArgument(isWithin(kind, 0, 1) && isWithin(volume, 0, MOST_VOLUME));
        demandState(slots[slot].isEmpty() && slotOf(code) == NONE);
        slots[slot].fill(code, kind == 1, volume);
    }

    public int removeRack(int slot) throws IllegalArgumentException, NoSuchElementException, IllegalStateException {
        demandArgument(isWithin(slot, 0, SLOTS - 1));
        demandElement(!slots[slot].isEmpty());
        demandState(!isAwaited(slots[slot].code));
        slots[slot].code = NONE;
        return slots[slot].volume;
    }

    public void reagent(int position, int kind, int volume, int expires)
            throws IllegalArgumentException, IllegalStateException {
        demandArgument(isWithin(position, 0, POSITIONS - 1) && isWithin(kind, 0, KINDS - 1));
        demandArgument(isWithin(volume, 0, MOST_VOLUME) && expires >= 0);
        demandState(positions[position].reserved == 0);
        positions[position].fill(kind, volume, expires);
    }

    public boolean forbid(int first, int then) throws IllegalArgumentException {
        demandArgument(isWithin(first, 0, KINDS - 1) && isWithin(then, 0, KINDS - 1));
        return arm.turnSuccession(first, then);
    }

    public int order(int code, int test, boolean urgent) throws IllegalArgumentException, IllegalStateException {
        demandArgument(isWithin(code, 1, MOST_CODE) && isWithin(test, 0, TESTS - 1));
        demandState(protocols[test].sealed && orderCount < MOST_ORDERS);
        int number = orderCount;
        orders[number].place(code, test, urgent);
        orderCount = number + 1;
        return number;
    }

    // ---- what comes from outside: time, light, faults ----

    public void clock(int minute) throws IllegalArgumentException {
        demandArgument(minute >= this.minute);
        this.minute = minute;
    }

    public void light(int counts) throws IllegalArgumentException {
        demandArgument(isWithin(counts, 1, MOST_COUNTS));
        this.counts = counts;
    }

    public void spoil(int arm) throws IllegalArgumentException {
        demandArgument(isWithin(arm, SAMPLE_ARM, REAGENT_ARM));
        if (arm == SAMPLE_ARM) {
            clotIsDue = true;
        } else {
            missIsDue = true;
        }
    }

    // ---- the steps of the disc ----

    public int step() {
        turnDisc();
        giveReagent();
        takeReadings();
        judgeEndedRuns();
        int started = startFirst(true);
        if (started == NONE) {
            started = startFirst(false);
        }
        if (started == NONE) {
            idleSteps++;
        }
        return started;
    }

    public int idle() {
        return idleSteps;
    }

    // ---- what can be asked ----

    public int state(int order, int what) throws IllegalArgumentException {
        demandArgument(isWithin(order, 0, orderCount - 1) && isWithin(what, 0, 6));
        Order asked = orders[order];
        Cuvette running = cuvetteOf(asked);
        switch (what) {
            case 0:
                return asked.state;
            case 1:
                return asked.reason;
            case 2:
                return asked.runs;
            case 3:
                return asked.cuvette;
            case 4:
                return running == null ? NONE : running.age;
            case 5:
                return asked.value;
            default:
                return asked.flags;
        }
    }

    public int cuvette(int c, int what) throws IllegalArgumentException {
        demandArgument(isWithin(c, 0, CUVETTES - 1) && isWithin(what, 0, 2));
        Cuvette asked = cuvettes[c];
        switch (what) {
            case 0:
                return asked.order;
            case 1:
                return asked.wash;
            default:
                return asked.content;
        }
    }

    public int volume(int kind, int place) throws IllegalArgumentException, NoSuchElementException {
        demandArgument(isWithin(kind, 0, 2) && isWithin(place, 0, (kind == 0 ? SLOTS : POSITIONS) - 1));
        if (kind == 0) {
            demandElement(!slots[place].isEmpty());
            return slots[place].volume;
        }
        demandElement(!positions[place].isEmpty());
        return kind == 1 ? positions[place].volume : positions[place].reserved;
    }

    public int trend(int test, int i) throws IllegalArgumentException, IndexOutOfBoundsException {
        demandArgument(isWithin(test, 0, TESTS - 1));
        History history = protocols[test].history;
        demandIndex(isWithin(i, 0, history.size - 1));
        return history.fromLatest(i);
    }

    public int rules(int test) throws IllegalArgumentException {
        demandArgument(isWithin(test, 0, TESTS - 1));
        return protocols[test].brokenRules();
    }

    // ---- the host ----

    public int host(int i) throws IndexOutOfBoundsException {
        demandIndex(isWithin(i, 0, queue.size - 1));
        return queue.numbers[i];
    }

    public int took(int n) throws IllegalArgumentException {
        demandArgument(isWithin(n, 0, queue.size));
        queue.dropFirst(n);
        return queue.size;
    }

    // ---- parts of a step ----

    private void turnDisc() {
        for (int c = 0; c < CUVETTES; c++) {
            cuvettes[c].turn();
        }
        arm.turn();
    }

    private void giveReagent() {
        int user = arm.userNow();
        if (!isWithin(user, 0, CUVETTES - 1)) {
            return;
        }
        if (missIsDue) {
            missIsDue = false;
            breakOff(user, MISS);
        } else {
            giveNextDose(cuvettes[user]);
        }
    }

    private void giveNextDose(Cuvette cuvette) {
        int which = cuvette.dosesGiven;
        if (which >= DOSES || !isWithin(cuvette.sources[which], 0, POSITIONS - 1)) {
            return;
        }
        int dose = cuvette.doses[which];
        Position source = positions[cuvette.sources[which]];
        source.reserved -= dose;
        source.volume -= dose;
        cuvette.content += dose;
        cuvette.dosesGiven = which + 1;
    }

    private void takeReadings() {
        int absorbance = absorbanceOf(counts);
        for (int n = 0; n < orderCount; n++) {
            Cuvette cuvette = cuvetteOf(orders[n]);
            if (cuvette != null && protocols[orders[n].test].isReadAt(cuvette.age)) {
                cuvette.addReading(absorbance);
            }
        }
    }

    private void judgeEndedRuns() {
        for (int n = 0; n < orderCount; n++) {
            Cuvette cuvette = cuvetteOf(orders[n]);
            if (cuvette != null && protocols[orders[n].test].isOverAt(cuvette.age)) {
                judge(n, cuvette);
            }
        }
    }

    private void judge(int number, Cuvette cuvette) {
        Order order = orders[number];
        Protocol protocol = protocols[order.test];
        boolean control = cuvette.control;
        long result = protocol.formulaOf(cuvette.readings, cuvette.readingCount);
        long exact = protocol.valueAt(result, order.diluted);
        int value = limited(exact);
        int flags = protocol.limitFlags(value) | order.runFlags() | (value == exact ? 0 : RANGE);
        cuvette.sendToWash();
        if (!control && order.runs == 1 && protocol.asksAgain(flags)) {
            order.waitAgain(protocol.dilutes());
            return;
        }
        order.release(value, flags);
        queue.append(number);
        if (control) {
            protocol.history.append(value);
        }
    }

    /** The number of the order that started, NONE if none of that urgency could. */
    private int startFirst(boolean urgent) {
        for (int n = 0; n < orderCount; n++) {
            if (orders[n].state == WAITING && orders[n].urgent == urgent && tryStart(n)) {
                return n;
            }
        }
        return NONE;
    }

    private boolean tryStart(int number) {
        Order order = orders[number];
        Protocol protocol = protocols[order.test];
        int slot = slotOf(order.code);
        if (slot == NONE) {
            return false;
        }
        // What is short fails the order even while no cuvette and no booking could be had.
        if (slots[slot].volume < protocol.sampleVolume(order.diluted)) {
            order.fail(SAMPLE_SHORT);
            return false;
        }
        int first = positionFor(protocol, 0, NONE);
        int second = positionFor(protocol, 1, first);
        if (protocol.lacks(0, first) || protocol.lacks(1, second)) {
            order.fail(REAGENT_SHORT);
            return false;
        }
        int clean = cleanCuvette();
        if (clean == NONE || !arm.book(protocol, clean)) {
            return false;
        }
        cuvettes[clean].start(number, slots[slot].control);
        reserve(cuvettes[clean], 0, first, protocol.doseOf(0));
        reserve(cuvettes[clean], 1, second, protocol.doseOf(1));
        order.startRun(clean);
        takeSample(slots[slot], clean, protocol.sampleVolume(order.diluted));
        return true;
    }

    private void reserve(Cuvette cuvette, int which, int position, int dose) {
        cuvette.sources[which] = position;
        cuvette.doses[which] = dose;
        if (position != NONE) {
            positions[position].reserved += dose;
        }
    }

    private void takeSample(Slot slot, int c, int sample) {
        if (clotIsDue) {
            clotIsDue = false;
            breakOff(c, CLOT);
        } else {
            slot.volume -= sample;
            cuvettes[c].content = sample;
        }
    }

    private void breakOff(int c, int reason) {
        Cuvette cuvette = cuvettes[c];
        for (int which = cuvette.dosesGiven; which < DOSES; which++) {
            if (isWithin(cuvette.sources[which], 0, POSITIONS - 1)) {
                positions[cuvette.sources[which]].reserved -= cuvette.doses[which];
            }
        }
        arm.cancel(c);
        if (isWithin(cuvette.order, 0, orderCount - 1)) {
            orders[cuvette.order].breakOff(reason);
        }
        cuvette.sendToWash();
    }

    // ---- looking things up ----

    private boolean isOrdered(int test) {
        for (int n = 0; n < orderCount; n++) {
            if (orders[n].isOpen() && orders[n].test == test) {
                return true;
            }
        }
        return false;
    }

    private boolean isAwaited(int code) {
        for (int n = 0; n < orderCount; n++) {
            if (orders[n].isOpen() && orders[n].code == code) {
                return true;
            }
        }
        return false;
    }

    private int slotOf(int code) {
        for (int s = 0; s < SLOTS; s++) {
            if (slots[s].code == code) {
                return s;
            }
        }
        return NONE;
    }

    private int cleanCuvette() {
        for (int c = 0; c < CUVETTES; c++) {
            if (cuvettes[c].isClean()) {
                return c;
            }
        }
        return NONE;
    }

    /** The position for one of the protocol's reagents, with the first one's dose held back where that was found. */
    private int positionFor(Protocol protocol, int which, int heldAt) {
        int kind = protocol.kindOf(which);
        int found = NONE;
        if (kind == NONE) {
            return found;
        }
        for (int p = 0; p < POSITIONS; p++) {
            int needed = protocol.doseOf(which) + (p == heldAt ? protocol.doseOf(0) : 0);
            if (positions[p].canGive(kind, needed, minute)
                    && (found == NONE || positions[p].expires < positions[found].expires)) {
                found = p;
            }
        }
        return found;
    }

    /** The cuvette in which an order runs; null if it does not run. */
    private Cuvette cuvetteOf(Order order) {
        return isWithin(order.cuvette, 0, CUVETTES - 1) ? cuvettes[order.cuvette] : null;
    }

    // ---- numbers ----

    private static boolean isWithin(int number, int least, int most) {
        return number >= least && number <= most;
    }

    private static int absorbanceOf(int counts) {
        int highestBit = 0;
        for (int bit = 1; bit < 16; bit++) {
            if (counts >> bit != 0) {
                highestBit = bit;
            }
        }
        long m = (long) counts << (15 - highestBit);
        int r = 0;
        for (int i = 0; i < 10; i++) {
            m = m * m / 32768;
            r = r * 2;
            if (m >= 65536) {
                r++;
                m = m / 2;
            }
        }
        return 16384 - (1024 * highestBit + r);
    }

    private static int limited(long value) {
        return (int) Math.max(-MOST_VALUE, Math.min(MOST_VALUE, value));
    }

    /** The quotient to the nearest whole number, halves up; a divisor that sealing rules out gives 0. */
    private static long rounded(long dividend, long divisor) {
        return divisor > 0 ? Math.floorDiv(2 * dividend + divisor, 2 * divisor) : 0;
    }

    // ---- refusals ----

    private static void demandArgument(boolean holds) {
        if (!holds) {
            throw new IllegalArgumentException();
        }
    }

    private static void demandState(boolean holds) {
        if (!holds) {
            throw new IllegalStateException();
        }
    }

    private static void demandElement(boolean holds) {
        if (!holds) {
            throw new NoSuchElementException();
        }
    }

    private static void demandIndex(boolean holds) {
        if (!holds) {
            throw new IndexOutOfBoundsException();
        }
    }

    // ---- classes inside ----

    private static final class Protocol {
        private static final int SAMPLE = 0;
        private static final int KIND = 1;
        private static final int DOSE = 2;
        private static final int GIVEN_AT = 3;
        private static final int FIELDS_PER_REAGENT = 3;
        private static final int FIRST_READING = 7;
        private static final int LAST_READING = 8;
        private static final int FORMULA = 9;
        private static final int LOW_LIMIT = 10;
        private static final int HIGH_LIMIT = 11;
        private static final int RULE = 12;
        private static final int DILUTION = 13;
        private static final int MEAN = 14;
        private static final int DEVIATION = 15;
        private static final int FIELDS = 16;

        private static final int END = 0;
        private static final int RATE = 1;
        private static final int REPEAT = 1;
        private static final int DILUTE = 2;

        private static final int[] LEAST =
                {0, -1, 0, 0, -1, 0, 0, 0, 0, 0, -2147483648, -2147483648, 0, 2, -2147483648, 1};
        private static final int[] MOST =
                {500, 5, 2000, 12, 5, 2000, 12, 12, 12, 2, 2147483647, 2147483647, 2, 10, 2147483647, 1000000};

        final int[] fields = new int[FIELDS];
        final Curve points = new Curve();
        final History history = new History();
        boolean sealed = false;

        Protocol() {
            fields[KIND] = NONE;
            fields[KIND + FIELDS_PER_REAGENT] = NONE;
            fields[DILUTION] = 2;
            fields[DEVIATION] = 1;
        }

        static boolean accepts(int field, int value) {
            return isWithin(field, 0, FIELDS - 1) && isWithin(value, LEAST[field], MOST[field]);
        }

        int kindOf(int which) {
            return fields[KIND + which * FIELDS_PER_REAGENT];
        }

        int doseOf(int which) {
            return fields[DOSE + which * FIELDS_PER_REAGENT];
        }

        int ageOf(int which) {
            return fields[GIVEN_AT + which * FIELDS_PER_REAGENT];
        }

        boolean lacks(int which, int position) {
            return kindOf(which) != NONE && position == NONE;
        }

        int sampleVolume(boolean diluted) {
            int dilution = fields[DILUTION];
            return diluted && dilution > 0 ? fields[SAMPLE] / dilution : fields[SAMPLE];
        }

        boolean isComplete() {
            return fields[SAMPLE] >= 1 && areReagentsRight() && areReadingsRight()
                    && fields[LOW_LIMIT] <= fields[HIGH_LIMIT] && isDilutionRight() && points.isComplete();
        }

        private boolean areReagentsRight() {
            if (kindOf(0) == NONE) {
                return kindOf(1) == NONE;
            }
            return isReagentRight(0) && (kindOf(1) == NONE || isReagentRight(1) && ageOf(1) > ageOf(0));
        }

        private boolean isReagentRight(int which) {
            return doseOf(which) >= 1 && ageOf(which) >= 1 && ageOf(which) < fields[FIRST_READING];
        }

        private boolean areReadingsRight() {
            int readings = fields[LAST_READING] - fields[FIRST_READING] + 1;
            int fewest = fields[FORMULA] == END ? 1 : 2;
            return fields[FIRST_READING] >= 1 && isWithin(readings, fewest, MOST_READINGS);
        }

        private boolean isDilutionRight() {
            int dilution = fields[DILUTION];
            return !dilutes() || dilution > 0 && fields[SAMPLE] % dilution == 0;
        }

        boolean isReadAt(int age) {
            return isWithin(age, fields[FIRST_READING], fields[LAST_READING]);
        }

        boolean isOverAt(int age) {
            return age > fields[LAST_READING];
        }

        boolean dilutes() {
            return fields[RULE] == DILUTE;
        }

        boolean asksAgain(int flags) {
            return fields[RULE] == DILUTE && (flags & HIGH) != 0
                    || fields[RULE] == REPEAT && (flags & (LOW | HIGH)) != 0;
        }

        int limitFlags(int value) {
            return (value < fields[LOW_LIMIT] ? LOW : 0) | (value > fields[HIGH_LIMIT] ? HIGH : 0);
        }

        long valueAt(long result, boolean diluted) {
            long value = points.valueAt(result);
            return diluted ? value * fields[DILUTION] : value;
        }

        long formulaOf(int[] readings, int count) {
            if (!isWithin(count, 1, readings.length)) {
                return 0;
            }
            if (fields[FORMULA] == RATE) {
                return rateOf(readings, count);
            }
            int last = readings[count - 1];
            return fields[FORMULA] == END ? last : last - readings[0];
        }

        private static long rateOf(int[] readings, int count) {
            long sumI = 0;
            long sumII = 0;
            long sumA = 0;
            long sumIA = 0;
            for (int i = 0; i < count && i < readings.length; i++) {
                sumI += i;
                sumII += (long) i * i;
                sumA += readings[i];
                sumIA += (long) i * readings[i];
            }
            return rounded(1000 * (count * sumIA - sumI * sumA), count * sumII - sumI * sumI);
        }

        int brokenRules() {
            long mean = fields[MEAN];
            long deviation = fields[DEVIATION];
            boolean one = history.above(mean + 3 * deviation, 1) == 1 || history.below(mean - 3 * deviation, 1) == 1;
            boolean two = history.above(mean + 2 * deviation, 3) >= 2 || history.below(mean - 2 * deviation, 3) >= 2;
            boolean ten = history.above(mean, History.LENGTH) == History.LENGTH
                    || history.below(mean, History.LENGTH) == History.LENGTH;
            return (one ? 1 : 0) | (two ? 2 : 0) | (ten ? 4 : 0);
        }
    }

    private static final class Curve {
        private static final int MOST_POINTS = 5;
        private static final int FARTHEST = 1000000;

        private final int[] xs = new int[MOST_POINTS];
        private final int[] values = new int[MOST_POINTS];
        int size = 0;

        static boolean accepts(int coordinate) {
            return isWithin(coordinate, -FARTHEST, FARTHEST);
        }

        boolean takes(int x) {
            return size < MOST_POINTS && (size < 1 || x != xs[size - 1]);
        }

        void add(int x, int value) {
            if (size >= 1 && x < xs[size - 1]) {
                size = 0;
            }
            if (size < MOST_POINTS) {
                xs[size] = x;
                values[size] = value;
                size++;
            }
        }

        boolean isComplete() {
            return size >= 2 && (isMonotone(1) || isMonotone(-1));
        }

        private boolean isMonotone(int sign) {
            for (int i = 1; i < size; i++) {
                if (sign * (values[i] - values[i - 1]) <= 0) {
                    return false;
                }
            }
            return true;
        }

        long valueAt(long x) {
            if (size < 2) {
                return 0;
            }
            int right = 1;
            while (right < size - 1 && x > xs[right]) {
                right++;
            }
            int left = right - 1;
            long rise = (x - xs[left]) * (values[right] - values[left]);
            return values[left] + rounded(rise, xs[right] - xs[left]);
        }
    }

    /** The last values of a test's controls, the latest one last. */
    private static final class History {
        static final int LENGTH = 10;

        private final int[] values = new int[LENGTH];
        int size = 0;

        void append(int value) {
            if (size == LENGTH) {
                for (int i = 1; i < LENGTH; i++) {
                    values[i - 1] = values[i];
                }
                size--;
            }
            values[size] = value;
            size++;
        }

        int fromLatest(int i) {
            return isWithin(i, 0, size - 1) ? values[size - 1 - i] : 0;
        }

        /** How many of the latest values lie above a bound. */
        int above(long bound, int latest) {
            int found = 0;
            for (int i = 0; i < latest && i < size; i++) {
                found += fromLatest(i) > bound ? 1 : 0;
            }
            return found;
        }

        /** How many of the latest values lie below a bound. */
        int below(long bound, int latest) {
            int found = 0;
            for (int i = 0; i < latest && i < size; i++) {
                found += fromLatest(i) < bound ? 1 : 0;
            }
            return found;
        }
    }

    private static final class Slot {
        int code = NONE;
        boolean control = false;
        int volume = 0;

        boolean isEmpty() {
            return code == NONE;
        }

        void fill(int newCode, boolean isControl, int newVolume) {
            code = newCode;
            control = isControl;
            volume = newVolume;
        }
    }

    private static final class Position {
        int kind = NONE;
        int volume = 0;
        int reserved = 0;
        int expires = 0;

        boolean isEmpty() {
            return kind == NONE;
        }

        void fill(int newKind, int newVolume, int newExpires) {
            kind = newKind;
            volume = newVolume;
            expires = newExpires;
        }

        boolean canGive(int wantedKind, int wanted, int minute) {
            return kind == wantedKind && minute < expires && volume - reserved >= wanted;
        }
    }

    private static final class Order {
        int code = NONE;
        int test = 0;
        boolean urgent = false;
        int state = WAITING;
        int reason = 0;
        int runs = 0;
        boolean diluted = false;
        int cuvette = NONE;
        int value = 0;
        int flags = 0;

        void place(int forCode, int forTest, boolean isUrgent) {
            code = forCode;
            test = forTest;
            urgent = isUrgent;
        }

        boolean isOpen() {
            return state == WAITING || state == RUNNING;
        }

        void startRun(int inCuvette) {
            state = RUNNING;
            runs++;
            cuvette = inCuvette;
        }

        void waitAgain(boolean dilutedThen) {
            state = WAITING;
            cuvette = NONE;
            diluted = dilutedThen;
        }

        void breakOff(int why) {
            if (runs == 1) {
                waitAgain(false);
            } else {
                fail(why);
            }
        }

        void fail(int why) {
            state = FAILED;
            reason = why;
            cuvette = NONE;
        }

        void release(int itsValue, int itsFlags) {
            state = RELEASED;
            cuvette = NONE;
            value = itsValue;
            flags = itsFlags;
        }

        int runFlags() {
            return (runs > 1 ? SECOND_RUN : 0) | (diluted ? DILUTED : 0);
        }
    }

    private static final class Cuvette {
        private static final int WASH_STEPS = 3;

        final int[] readings = new int[MOST_READINGS];
        int readingCount = 0;
        final int[] sources = new int[DOSES];
        final int[] doses = new int[DOSES];
        int dosesGiven = 0;
        int order = NONE;
        boolean control = false;
        int age = 0;
        int wash = 0;
        int content = 0;

        boolean isClean() {
            return order == NONE && wash == 0;
        }

        void turn() {
            if (order != NONE) {
                age++;
            } else if (wash > 0) {
                wash--;
            }
        }

        void start(int forOrder, boolean isControl) {
            order = forOrder;
            control = isControl;
            age = 0;
            readingCount = 0;
            dosesGiven = 0;
        }

        void addReading(int absorbance) {
            if (readingCount < MOST_READINGS) {
                readings[readingCount] = absorbance;
                readingCount++;
            }
        }

        void sendToWash() {
            order = NONE;
            content = 0;
            wash = WASH_STEPS;
        }
    }

    /**
     * Entry 0 is what the arm gave in this step, entry n what is booked for the n-th step from now.
     * Steps that are further back are not kept: the one between is their rinse.
     */
    private static final class ReagentArm {
        private final int[] kinds = new int[LAST_AGE + 1];
        private final int[] users = new int[LAST_AGE + 1];
        private final boolean[] forbidden = new boolean[KINDS * KINDS];

        ReagentArm() {
            for (int i = 0; i <= LAST_AGE; i++) {
                kinds[i] = NONE;
                users[i] = NONE;
            }
        }

        boolean turnSuccession(int first, int then) {
            int succession = first * KINDS + then;
            forbidden[succession] = !forbidden[succession];
            return forbidden[succession];
        }

        void turn() {
            for (int i = 0; i < LAST_AGE; i++) {
                kinds[i] = kinds[i + 1];
                users[i] = users[i + 1];
            }
            clear(LAST_AGE);
        }

        int userNow() {
            return users[0];
        }

        /** Books a run's reagents if that is allowed, else leaves the bookings as they are. */
        boolean book(Protocol protocol, int cuvette) {
            for (int which = 0; which < DOSES; which++) {
                if (protocol.kindOf(which) != NONE && !isFree(protocol.ageOf(which))) {
                    return false;
                }
            }
            for (int which = 0; which < DOSES; which++) {
                if (protocol.kindOf(which) != NONE) {
                    kinds[protocol.ageOf(which)] = protocol.kindOf(which);
                    users[protocol.ageOf(which)] = cuvette;
                }
            }
            if (hasForbiddenSuccession()) {
                cancel(cuvette);
                return false;
            }
            return true;
        }

        private boolean isFree(int steps) {
            return isWithin(steps, 1, LAST_AGE) && kinds[steps] == NONE;
        }

        private boolean hasForbiddenSuccession() {
            for (int i = 1; i <= LAST_AGE; i++) {
                if (kinds[i - 1] != NONE && kinds[i] != NONE && forbidden[kinds[i - 1] * KINDS + kinds[i]]) {
                    return true;
                }
            }
            return false;
        }

        /** Entry 0 stays: what was given counts for the successions, even if its run breaks off. */
        void cancel(int cuvette) {
            for (int i = 1; i <= LAST_AGE; i++) {
                if (users[i] == cuvette) {
                    clear(i);
                }
            }
        }

        private void clear(int i) {
            kinds[i] = NONE;
            users[i] = NONE;
        }
    }

    /** Each order is released once at most, so the numbers of all orders are room enough. */
    private static final class HostQueue {
        final int[] numbers = new int[MOST_ORDERS];
        int size = 0;

        void append(int number) {
            if (size < MOST_ORDERS) {
                numbers[size] = number;
                size++;
            }
        }

        void dropFirst(int n) {
            for (int i = n; i < size; i++) {
                numbers[i - n] = numbers[i];
            }
            size -= n;
        }
    }
}
