import java.util.NoSuchElementException;

/** A shaper of traffic on one link. What it does is told in DOC.md, as numbered promises. */
public final class RefundShaper {
    public static final int NONE = -1;

    private static final int MOST_HOUSEHOLDS = 6;
    private static final int MOST_PROGRAMS = 12;
    private static final int MOST_CAPACITY = 9999;
    private static final int MOST_THRESHOLD = 100;
    private static final int MOST_PRICE = 99;
    private static final int MOST_FORGET = 9;
    private static final int MOST_CAP = 99999;
    private static final int MOST_TOLD_COINS = 99999;
    private static final int MOST_BALANCE = 9999999;
    private static final int MOST_RATE = 999;
    private static final int MOST_GAIN = 99;
    private static final int MOST_LEARN = 50;
    private static final int MOST_TIME = 100000;
    private static final int MOST_SLOTS = 200;
    private static final int CALM_SLOTS = 3;
    private static final int HOUR_SLOTS = 12;
    private static final int KEPT_HOURS = 24;
    private static final int BUFFER_BYTES = 700;
    private static final int APPENDED_BYTES = 20;
    private static final int REPORT_BYTES = 500;
    private static final int UNDO_DEPTH = 8;
    private static final int SNAPSHOTS = 2;
    private static final int ANY_UNITS = 1000000000;

    private static final int NAME_LETTERS = 8;
    private static final int LETTER_BITS = 5;
    private static final int LETTER_MASK = 31;

    private static final int MEEK = 0;
    private static final int STEADY = 1;
    private static final int STUBBORN = 2;
    private static final int COPYING = 3;

    private static final int OFFERED = 0;
    private static final int CAPPED = 1;
    private static final int UNPAID = 2;
    private static final int YIELDED = 3;
    private static final int DROPPED = 4;
    private static final int DELIVERED = 5;
    private static final int PAID = 6;
    private static final int REFUNDED = 7;
    private static final int SLOT_COUNTS = 6;
    private static final int COUNTS = 8;

    private final TextReader reader = new TextReader();
    private final Report latestReport = new Report();
    private final Link now = new Link();
    private final Link trial = new Link();
    private final Link[] past = new Link[UNDO_DEPTH];
    private int pastNext = 0;
    private int pastCount = 0;
    private final Link[] snapshots = new Link[SNAPSHOTS];
    private final boolean[] saved = new boolean[SNAPSHOTS];

    public RefundShaper() {
        for (int i = 0; i < UNDO_DEPTH; i++) {
            past[i] = new Link();
        }
        for (int i = 0; i < SNAPSHOTS; i++) {
            snapshots[i] = new Link();
        }
    }

    // ---- texts

    public int append(int a, int b, int c, int d, int e) {
        if (reader.filled + APPENDED_BYTES > BUFFER_BYTES) {
            return NONE;
        }
        reader.fill(a);
        reader.fill(b);
        reader.fill(c);
        reader.fill(d);
        reader.fill(e);
        return reader.filled;
    }

    public int parse(int bytes) throws IllegalArgumentException {
        requireRange(bytes, 0, reader.filled);
        reader.read(bytes);
        if (reader.code != 0) {
            return -2 - (8 * reader.offset + reader.code);
        }
        now.copyFrom(reader.link);
        pastCount = 0;
        for (int i = 0; i < SNAPSHOTS; i++) {
            saved[i] = false;
        }
        return now.programCount;
    }

    public int size(int what) throws IllegalArgumentException {
        switch (what) {
            case 0:
                return now.householdCount;
            case 1:
                return now.programCount;
            case 2:
                return now.capacity;
            case 3:
                return now.threshold;
            case 4:
                return now.price;
            case 5:
                return now.refund;
            case 6:
                return now.forget;
            case 7:
                return now.time;
            case 8:
                return now.endedHours() - now.firstKeptHour();
            case 9:
                return pastCount;
            case 10:
                return reader.filled;
            case 11:
                return now.warnedSlots;
            case 12:
                return now.droppingSlots;
            default:
                throw new IllegalArgumentException("there is no such number");
        }
    }

    // ---- households and programs

    public int household(int household, int what) throws IndexOutOfBoundsException, IllegalArgumentException {
        requireHousehold(household);
        Household asked = now.households[household];
        switch (what) {
            case 0:
                return asked.cap;
            case 1:
                return asked.balance;
            case 2:
                return asked.used;
            case 3:
                return asked.delivered;
            case 4:
                return now.programsOf(household, false);
            case 5:
                return now.programsOf(household, true);
            default:
                throw new IllegalArgumentException("a household has no such number");
        }
    }

    public int program(int program, int what) throws IndexOutOfBoundsException, IllegalArgumentException {
        requireProgram(program);
        Program asked = now.programs[program];
        switch (what) {
            case 0:
                return asked.household;
            case 1:
                return asked.kind;
            case 2:
                return asked.rate;
            case 3:
                return asked.floor;
            case 4:
                return asked.ceiling;
            case 5:
                return asked.gain;
            case 6:
                return asked.percent;
            case 7:
                return asked.learn;
            case 8:
                return asked.base;
            case 9:
                return asked.misses;
            case 10:
                return asked.on ? 1 : 0;
            default:
                throw new IllegalArgumentException("a program has no such number");
        }
    }

    public int letter(boolean isHousehold, int which, int index) throws IndexOutOfBoundsException {
        long name;
        if (isHousehold) {
            requireHousehold(which);
            name = now.households[which].name;
        } else {
            requireProgram(which);
            name = now.programs[which].name;
        }
        return letterOf(name, index);
    }

    // ---- counts

    public long counted(int program, int what) throws IndexOutOfBoundsException, IllegalArgumentException {
        requireProgram(program);
        requireRange(what, 0, COUNTS - 1);
        return now.programs[program].counts[what];
    }

    public long total(int what) throws IllegalArgumentException {
        requireRange(what, 0, COUNTS - 1);
        long sum = 0;
        for (int p = 0; p < now.programCount; p++) {
            sum += now.programs[p].counts[what];
        }
        return sum;
    }

    public int latest(int program, int what) throws IndexOutOfBoundsException, IllegalArgumentException {
        requireProgram(program);
        requireRange(what, 0, SLOT_COUNTS - 1);
        return now.time == 0 ? NONE : now.programs[program].inSlot[what];
    }

    public boolean isWarned() {
        return now.warned;
    }

    // ---- hours

    public int hour(int hour, int household) throws IndexOutOfBoundsException, NoSuchElementException {
        requireHousehold(household);
        requireKeptHour(hour);
        return now.deliveredInHour(hour, household);
    }

    public double fairness(int hour) throws NoSuchElementException {
        requireKeptHour(hour);
        return now.fairnessOfHour(hour);
    }

    public double fairnessOfPrograms() {
        long sum = 0;
        long squares = 0;
        for (int p = 0; p < now.programCount; p++) {
            long units = now.programs[p].counts[DELIVERED];
            sum += units;
            squares += units * units;
        }
        return fairnessOf(sum, squares, now.programCount);
    }

    public int unfairest() {
        int worst = NONE;
        double least = 2.0;
        for (int hour = now.firstKeptHour(); hour < now.endedHours(); hour++) {
            double fairness = now.fairnessOfHour(hour);
            if (fairness < least) {
                worst = hour;
                least = fairness;
            }
        }
        return worst;
    }

    public float served(int program) throws IndexOutOfBoundsException {
        requireProgram(program);
        long[] counts = now.programs[program].counts;
        if (counts[OFFERED] <= 0) {
            return 1.0f;
        }
        return (float) counts[DELIVERED] / (float) counts[OFFERED];
    }

    // ---- who

    public int mostYielding() {
        int most = NONE;
        long units = 0;
        for (int p = 0; p < now.programCount; p++) {
            if (now.programs[p].counts[YIELDED] > units) {
                most = p;
                units = now.programs[p].counts[YIELDED];
            }
        }
        return most;
    }

    public int dropRow(int k) {
        for (int p = 0; p < now.programCount; p++) {
            if (now.dropRank(p) == k) {
                return p;
            }
        }
        return NONE;
    }

    // ---- what would be

    public int dropsIn(int slots) throws IllegalArgumentException {
        requireRange(slots, 0, MOST_SLOTS);
        trial.copyFrom(now);
        return trial.passSlots(slots, ANY_UNITS);
    }

    public int deliveredIn(int program, int slots) throws IndexOutOfBoundsException, IllegalArgumentException {
        requireProgram(program);
        requireRange(slots, 0, MOST_SLOTS);
        trial.copyFrom(now);
        trial.passSlots(slots, ANY_UNITS);
        return (int) (trial.programs[program].counts[DELIVERED] - now.programs[program].counts[DELIVERED]);
    }

    public int firstDrop() {
        trial.copyFrom(now);
        for (int slot = 1; slot <= MOST_SLOTS; slot++) {
            if (trial.passSlot() > 0) {
                return slot;
            }
        }
        return NONE;
    }

    public int calmIn() {
        trial.copyFrom(now);
        int calm = 0;
        for (int slot = 1; slot < MOST_SLOTS + CALM_SLOTS; slot++) {
            calm = trial.passSlot() > 0 ? 0 : calm + 1;
            if (calm == CALM_SLOTS) {
                return slot - CALM_SLOTS + 1;
            }
        }
        return NONE;
    }

    public int bestThreshold(int slots) throws IllegalArgumentException {
        requireRange(slots, 1, 30);
        int best = NONE;
        int fewest = ANY_UNITS;
        for (int threshold = MOST_THRESHOLD; threshold >= 1 && fewest > 0; threshold--) {
            trial.copyFrom(now);
            trial.threshold = threshold;
            int dropped = trial.passSlots(slots, fewest);
            if (dropped < fewest) {
                best = threshold;
                fewest = dropped;
            }
        }
        return best;
    }

    public int neededCapacity(int slots) throws IllegalArgumentException {
        requireRange(slots, 1, 10);
        int capacity = 1;
        for (int tries = 0; tries < MOST_CAPACITY && capacity <= MOST_CAPACITY; tries++) {
            int next = nextCapacity(capacity, slots);
            if (next == capacity) {
                return capacity;
            }
            capacity = next;
        }
        return NONE;
    }

    /** The capacity itself if nothing is dropped by it, otherwise the next one by which less might be dropped. */
    private int nextCapacity(int capacity, int slots) {
        trial.copyFrom(now);
        trial.capacity = capacity;
        // A greater capacity changes nothing up to the first drop as long as it is too
        // small to end a warning or that drop: all capacities up to there drop, too.
        int next = MOST_CAPACITY + 1;
        for (int slot = 0; slot < slots; slot++) {
            boolean drops = trial.passSlot() > 0;
            if (trial.warned) {
                next = Math.min(next, trial.capacityWithoutWarning());
            }
            if (drops) {
                return Math.min(next, trial.sentUnits());
            }
        }
        return capacity;
    }

    public int culprit(int slots) throws IllegalArgumentException {
        requireRange(slots, 1, 50);
        trial.copyFrom(now);
        int fewest = trial.passSlots(slots, ANY_UNITS);
        int found = NONE;
        for (int p = 0; p < now.programCount; p++) {
            if (now.programs[p].on) {
                trial.copyFrom(now);
                trial.programs[p].on = false;
                int dropped = trial.passSlots(slots, fewest);
                if (dropped < fewest) {
                    found = p;
                    fewest = dropped;
                }
            }
        }
        return found;
    }

    // ---- changes

    public int run(int slots) throws IllegalArgumentException {
        requireRange(slots, 1, Math.min(MOST_SLOTS, MOST_TIME - now.time));
        keepForUndo();
        return now.passSlots(slots, ANY_UNITS);
    }

    public boolean turn(int program, boolean on) throws IndexOutOfBoundsException {
        requireProgram(program);
        keepForUndo();
        boolean previous = now.programs[program].on;
        now.programs[program].on = on;
        return previous;
    }

    public int setRate(int program, int rate) throws IndexOutOfBoundsException, IllegalArgumentException {
        requireProgram(program);
        Program changed = now.programs[program];
        requireRange(rate, changed.floor, changed.ceiling);
        keepForUndo();
        int previous = changed.rate;
        changed.rate = rate;
        return previous;
    }

    public int setYield(int program, int percent) throws IndexOutOfBoundsException, IllegalArgumentException {
        requireProgram(program);
        requireRange(percent, 0, 100);
        keepForUndo();
        int previous = now.programs[program].percent;
        now.programs[program].percent = percent;
        return previous;
    }

    public int setCap(int household, int cap) throws IndexOutOfBoundsException, IllegalArgumentException {
        requireHousehold(household);
        requireRange(cap, 1, MOST_CAP);
        keepForUndo();
        int previous = now.households[household].cap;
        now.households[household].cap = cap;
        return previous;
    }

    public int topUp(int household, int coins)
            throws IndexOutOfBoundsException, IllegalArgumentException, IllegalStateException {
        requireHousehold(household);
        requireRange(coins, 1, MOST_TOLD_COINS);
        Household changed = now.households[household];
        if (changed.balance + coins > MOST_BALANCE) {
            throw new IllegalStateException("the balance would be too great");
        }
        keepForUndo();
        changed.balance += coins;
        return changed.balance;
    }

    public int setLink(int capacity, int threshold) throws IllegalArgumentException {
        requireRange(capacity, 1, MOST_CAPACITY);
        requireRange(threshold, 1, MOST_THRESHOLD);
        keepForUndo();
        int previous = now.capacity;
        now.capacity = capacity;
        now.threshold = threshold;
        return previous;
    }

    public int setPrices(int price, int refund) throws IllegalArgumentException {
        requireRange(price, 0, MOST_PRICE);
        requireRange(refund, 0, price);
        keepForUndo();
        int previous = now.price;
        now.price = price;
        now.refund = refund;
        return previous;
    }

    // ---- reports, undo, snapshots

    public int report() {
        latestReport.clear();
        for (int p = 0; p < now.programCount; p++) {
            latestReport.putProgram(now.programs[p]);
        }
        return latestReport.length;
    }

    public int reportByte(int index) {
        return index < 0 || index >= latestReport.length ? NONE : latestReport.bytes[index];
    }

    public int undo() {
        if (pastCount == 0) {
            return NONE;
        }
        pastNext = Math.floorMod(pastNext - 1, UNDO_DEPTH);
        pastCount--;
        now.copyFrom(past[pastNext]);
        return pastCount;
    }

    public boolean saveSnapshot(int slot) throws IllegalArgumentException {
        requireRange(slot, 0, SNAPSHOTS - 1);
        boolean previous = saved[slot];
        snapshots[slot].copyFrom(now);
        saved[slot] = true;
        return previous;
    }

    public int restoreSnapshot(int slot) throws IllegalArgumentException, IllegalStateException {
        requireRange(slot, 0, SNAPSHOTS - 1);
        if (!saved[slot]) {
            throw new IllegalStateException("no snapshot is saved there");
        }
        now.copyFrom(snapshots[slot]);
        pastCount = 0;
        return now.time;
    }

    public long checksum() {
        long sum = 0;
        for (int what = 2; what <= 8; what++) {
            sum = 31 * sum + size(what);
        }
        sum = 31 * sum + size(11);
        sum = 31 * sum + size(12);
        for (int h = 0; h < now.householdCount; h++) {
            for (int what = 0; what <= 3; what++) {
                sum = 31 * sum + household(h, what);
            }
        }
        for (int p = 0; p < now.programCount; p++) {
            sum = 31 * sum + program(p, 2);
            sum = 31 * sum + program(p, 6);
            sum = 31 * sum + program(p, 9);
            for (int what = 0; what < COUNTS; what++) {
                sum = 31 * sum + counted(p, what);
            }
        }
        return sum;
    }

    private void keepForUndo() {
        past[pastNext].copyFrom(now);
        pastNext = (pastNext + 1) % UNDO_DEPTH;
        pastCount = Math.min(pastCount + 1, UNDO_DEPTH);
    }

    private void requireHousehold(int household) {
        if (household < 0 || household >= now.householdCount) {
            throw new IndexOutOfBoundsException("there is no such household");
        }
    }

    private void requireProgram(int program) {
        if (program < 0 || program >= now.programCount) {
            throw new IndexOutOfBoundsException("there is no such program");
        }
    }

    private void requireKeptHour(int hour) {
        if (hour < now.firstKeptHour() || hour >= now.endedHours()) {
            throw new NoSuchElementException("that hour is not kept");
        }
    }

    private static void requireRange(int number, int least, int most) {
        if (number < least || number > most) {
            throw new IllegalArgumentException("a number is out of range");
        }
    }

    private static double fairnessOf(long sum, long squares, int numbers) {
        long divisor = numbers * squares;
        return divisor == 0 ? 1.0 : (double) (sum * sum) / (double) divisor;
    }

    /** A name is kept as a long: five bits a letter, the first letter in the lowest ones. */
    private static int letterOf(long name, int index) {
        return index < 0 || index >= NAME_LETTERS ? 0 : (int) (name >> (LETTER_BITS * index)) & LETTER_MASK;
    }

    private static long withLetter(long name, int index, int letter) {
        return name | (long) letter << (LETTER_BITS * index);
    }

    private static final class Household {
        long name = 0;
        int cap = 1;
        int balance = 0;
        int used = 0;
        int delivered = 0;

        void copyFrom(Household other) {
            name = other.name;
            cap = other.cap;
            balance = other.balance;
            used = other.used;
            delivered = other.delivered;
        }
    }

    private static final class Program {
        long name = 0;
        int household = 0;
        int kind = MEEK;
        int rate = 0;
        int floor = 0;
        int ceiling = 0;
        int gain = 0;
        int percent = 0;
        int learn = 0;
        int base = 0;
        int misses = 0;
        boolean on = true;
        final int[] inSlot = new int[SLOT_COUNTS];
        final long[] counts = new long[COUNTS];

        void copyFrom(Program other) {
            name = other.name;
            household = other.household;
            kind = other.kind;
            rate = other.rate;
            floor = other.floor;
            ceiling = other.ceiling;
            gain = other.gain;
            percent = other.percent;
            learn = other.learn;
            base = other.base;
            misses = other.misses;
            on = other.on;
            System.arraycopy(other.inSlot, 0, inSlot, 0, SLOT_COUNTS);
            System.arraycopy(other.counts, 0, counts, 0, COUNTS);
        }

        void offer(Household payer, int price) {
            int offered = on ? rate : 0;
            // The cap may have been set below what is used already.
            int within = Math.min(offered, Math.max(0, payer.cap - payer.used));
            int admitted = price > 0 ? Math.min(within, payer.balance / price) : within;
            payer.used += admitted;
            payer.balance -= admitted * price;
            inSlot[OFFERED] = offered;
            inSlot[CAPPED] = offered - within;
            inSlot[UNPAID] = within - admitted;
            inSlot[YIELDED] = 0;
            inSlot[DROPPED] = 0;
        }

        void yieldFor(Household payer, int refund) {
            inSlot[YIELDED] = admittedUnits() * percent / 100;
            payer.balance += inSlot[YIELDED] * refund;
        }

        int admittedUnits() {
            return inSlot[OFFERED] - inSlot[CAPPED] - inSlot[UNPAID];
        }

        boolean hasYielded() {
            return inSlot[YIELDED] > 0;
        }

        int sentUnits() {
            return admittedUnits() - inSlot[YIELDED];
        }

        void deliver(Household receiver, int price, int refund) {
            inSlot[DELIVERED] = sentUnits() - inSlot[DROPPED];
            receiver.delivered += inSlot[DELIVERED];
            for (int what = 0; what < SLOT_COUNTS; what++) {
                counts[what] += inSlot[what];
            }
            counts[PAID] += admittedUnits() * price;
            counts[REFUNDED] += inSlot[YIELDED] * refund;
        }

        void learnFrom(boolean warned, int forget, int leadingPercent) {
            if (inSlot[DROPPED] > 0) {
                misses++;
                percent = Math.min(100, raisedPercent(leadingPercent));
                rate = Math.max(floor, rate - rate / 4);
            } else if (hasYielded()) {
                misses = 0;
                rate = Math.max(floor, rate - inSlot[YIELDED]);
            } else {
                misses = 0;
                rate = Math.min(ceiling, rate + gain);
                if (!warned && percent > base) {
                    percent = Math.max(base, percent - forget);
                }
            }
        }

        private int raisedPercent(int leadingPercent) {
            switch (kind) {
                case MEEK:
                    return percent + 2 * learn;
                case STUBBORN:
                    return misses % 2 == 0 ? percent + learn : percent;
                case COPYING:
                    return leadingPercent > percent ? leadingPercent : percent + learn;
                default:
                    return percent + learn;
            }
        }
    }

    /** All that undo and snapshots hold: the terms of the link, its households and programs, the hours kept. */
    private static final class Link {
        int capacity = 100;
        int threshold = 80;
        int price = 1;
        int refund = 1;
        int forget = 1;
        int time = 0;
        int warnedSlots = 0;
        int droppingSlots = 0;
        boolean warned = false;
        int householdCount = 0;
        int programCount = 0;
        final Household[] households = new Household[MOST_HOUSEHOLDS];
        final Program[] programs = new Program[MOST_PROGRAMS];
        final int[] hours = new int[KEPT_HOURS * MOST_HOUSEHOLDS];

        Link() {
            for (int h = 0; h < MOST_HOUSEHOLDS; h++) {
                households[h] = new Household();
            }
            for (int p = 0; p < MOST_PROGRAMS; p++) {
                programs[p] = new Program();
            }
        }

        void copyFrom(Link other) {
            capacity = other.capacity;
            threshold = other.threshold;
            price = other.price;
            refund = other.refund;
            forget = other.forget;
            time = other.time;
            warnedSlots = other.warnedSlots;
            droppingSlots = other.droppingSlots;
            warned = other.warned;
            householdCount = other.householdCount;
            programCount = other.programCount;
            for (int h = 0; h < householdCount; h++) {
                households[h].copyFrom(other.households[h]);
            }
            for (int p = 0; p < programCount; p++) {
                programs[p].copyFrom(other.programs[p]);
            }
            System.arraycopy(other.hours, 0, hours, 0, hours.length);
        }

        void addHousehold(long name, int cap, int balance) {
            if (householdCount < MOST_HOUSEHOLDS) {
                Household added = households[householdCount];
                added.name = name;
                added.cap = cap;
                added.balance = balance;
                householdCount++;
            }
        }

        int householdNamed(long name) {
            for (int h = 0; h < householdCount; h++) {
                if (households[h].name == name) {
                    return h;
                }
            }
            return NONE;
        }

        int programNamed(long name) {
            for (int p = 0; p < programCount; p++) {
                if (programs[p].name == name) {
                    return p;
                }
            }
            return NONE;
        }

        int programsOf(int household, boolean onOnly) {
            int found = 0;
            for (int p = 0; p < programCount; p++) {
                if (programs[p].household == household && (programs[p].on || !onOnly)) {
                    found++;
                }
            }
            return found;
        }

        int dropRank(int program) {
            long drops = programs[program].counts[DROPPED];
            int ahead = 0;
            for (int p = 0; p < programCount; p++) {
                long others = programs[p].counts[DROPPED];
                if (others > drops || others == drops && p < program) {
                    ahead++;
                }
            }
            return ahead;
        }

        int endedHours() {
            return time / HOUR_SLOTS;
        }

        int firstKeptHour() {
            return Math.max(0, endedHours() - KEPT_HOURS);
        }

        int deliveredInHour(int hour, int household) {
            return hours[placeOfHour(hour, household)];
        }

        private int placeOfHour(int hour, int household) {
            return hour % KEPT_HOURS * MOST_HOUSEHOLDS + household;
        }

        double fairnessOfHour(int hour) {
            long sum = 0;
            long squares = 0;
            int numbers = 0;
            for (int h = 0; h < householdCount; h++) {
                if (programsOf(h, false) > 0) {
                    long units = deliveredInHour(hour, h);
                    sum += units;
                    squares += units * units;
                    numbers++;
                }
            }
            return fairnessOf(sum, squares, numbers);
        }

        /** Lets slots go by until enough units are dropped; returns how many were. */
        int passSlots(int slots, int enough) {
            int dropped = 0;
            for (int slot = 0; slot < slots && dropped < enough; slot++) {
                dropped += passSlot();
            }
            return dropped;
        }

        int passSlot() {
            for (int p = 0; p < programCount; p++) {
                programs[p].offer(households[programs[p].household], price);
            }
            warned = 100 * admittedUnits() > threshold * capacity;
            if (warned) {
                warnedSlots++;
                for (int p = 0; p < programCount; p++) {
                    programs[p].yieldFor(households[programs[p].household], refund);
                }
            }
            int dropped = dropExcess();
            if (dropped > 0) {
                droppingSlots++;
            }
            for (int p = 0; p < programCount; p++) {
                programs[p].deliver(households[programs[p].household], price, refund);
            }
            learnAll();
            passTime();
            return dropped;
        }

        int admittedUnits() {
            int units = 0;
            for (int p = 0; p < programCount; p++) {
                units += programs[p].admittedUnits();
            }
            return units;
        }

        int sentUnits() {
            return sentBy(false) + sentBy(true);
        }

        private int sentBy(boolean yielders) {
            int units = 0;
            for (int p = 0; p < programCount; p++) {
                if (programs[p].hasYielded() == yielders) {
                    units += programs[p].sentUnits();
                }
            }
            return units;
        }

        int capacityWithoutWarning() {
            return threshold > 0 ? (100 * admittedUnits() + threshold - 1) / threshold : MOST_CAPACITY + 1;
        }

        private int dropExcess() {
            int sentByOthers = sentBy(false);
            int sentByYielders = sentBy(true);
            int excess = sentByOthers + sentByYielders - capacity;
            if (excess <= 0) {
                return 0;
            }
            int ofOthers = Math.min(excess, sentByOthers);
            dropAmong(false, ofOthers, sentByOthers);
            dropAmong(true, excess - ofOthers, sentByYielders);
            return excess;
        }

        private void dropAmong(boolean yielders, int units, int sent) {
            if (sent <= 0) {
                return;
            }
            int left = units;
            for (int p = 0; p < programCount; p++) {
                Program program = programs[p];
                if (program.hasYielded() == yielders) {
                    program.inSlot[DROPPED] = units * program.sentUnits() / sent;
                    left -= program.inSlot[DROPPED];
                }
            }
            // One round is enough: what is left comes of quotients that were rounded
            // down, less than one unit each, and each of these programs has a unit left.
            for (int p = 0; p < programCount && left > 0; p++) {
                Program program = programs[p];
                if (program.hasYielded() == yielders && program.inSlot[DROPPED] < program.sentUnits()) {
                    program.inSlot[DROPPED]++;
                    left--;
                }
            }
        }

        private void learnAll() {
            int leading = leadingPercent();
            for (int p = 0; p < programCount; p++) {
                if (programs[p].on) {
                    programs[p].learnFrom(warned, forget, leading);
                }
            }
        }

        private int leadingPercent() {
            int most = 0;
            int leading = NONE;
            for (int p = 0; p < programCount; p++) {
                if (programs[p].inSlot[YIELDED] > most) {
                    most = programs[p].inSlot[YIELDED];
                    leading = programs[p].percent;
                }
            }
            return leading;
        }

        private void passTime() {
            time++;
            if (time % HOUR_SLOTS == 0) {
                for (int h = 0; h < householdCount; h++) {
                    hours[placeOfHour(endedHours() - 1, h)] = households[h].delivered;
                    households[h].used = 0;
                    households[h].delivered = 0;
                }
            }
        }
    }

    /** The input buffer, read token by token into a link; once an error is found, nothing more is taken. */
    private static final class TextReader {
        private static final int END = 0;
        private static final int WORD = 1;
        private static final int NUMBER = 2;
        private static final int SEMICOLON = 3;
        private static final int INVALID = 4;
        private static final int NUMBER_DIGITS = 5;

        private final byte[] text = new byte[BUFFER_BYTES];
        private int end = 0;
        private int next = 0;
        private int token = END;
        private long word = 0;
        private int number = 0;
        final Link link = new Link();
        int filled = 0;
        int code = 0;
        int offset = 0;

        void fill(int fourBytes) {
            for (int shift = 24; shift >= 0 && filled < BUFFER_BYTES; shift -= 8) {
                text[filled] = (byte) (fourBytes >> shift);
                filled++;
            }
        }

        /** Empties the buffer; its first bytes are in the link then, or the code of the error at the offset is not 0. */
        void read(int bytes) {
            end = Math.min(bytes, filled);
            filled = 0;
            next = 0;
            code = 0;
            // No slot passes in this link: nothing else of an earlier text is left in it.
            link.householdCount = 0;
            link.programCount = 0;
            take();
            readTerms();
            // Each statement takes at least one byte.
            for (int statements = 0; statements < end && code == 0 && token != END; statements++) {
                if (isWord("house")) {
                    readHousehold();
                } else if (isWord("program")) {
                    readProgram();
                } else {
                    require(isWord("off"), 1);
                    readOff();
                }
                takeSemicolon();
            }
        }

        private void readTerms() {
            require(isWord("link"), 1);
            take();
            link.capacity = takeNumber(1, MOST_CAPACITY);
            link.threshold = takeNumber(1, MOST_THRESHOLD);
            link.price = takeNumber(0, MOST_PRICE);
            link.refund = takeNumber(0, link.price);
            link.forget = takeNumber(0, MOST_FORGET);
            takeSemicolon();
        }

        private void readHousehold() {
            require(link.householdCount < MOST_HOUSEHOLDS, 5);
            take();
            require(token == WORD, 1);
            require(link.householdNamed(word) == NONE, 3);
            long name = word;
            take();
            int cap = takeNumber(1, MOST_CAP);
            int balance = takeNumber(0, MOST_TOLD_COINS);
            if (code == 0) {
                link.addHousehold(name, cap, balance);
            }
        }

        private void readProgram() {
            require(link.programCount < MOST_PROGRAMS, 5);
            if (code != 0) {
                return;
            }
            take();
            // The row behind the last program counts only once all of it is read.
            Program program = link.programs[link.programCount];
            program.on = true;
            require(token == WORD, 1);
            require(link.programNamed(word) == NONE, 3);
            program.name = word;
            take();
            program.kind = takeKind();
            require(token == WORD, 1);
            program.household = link.householdNamed(word);
            require(program.household != NONE, 4);
            take();
            program.floor = takeNumber(0, MOST_RATE);
            program.ceiling = takeNumber(program.floor, MOST_RATE);
            program.rate = takeNumber(program.floor, program.ceiling);
            program.gain = takeNumber(0, MOST_GAIN);
            program.base = takeNumber(0, 100);
            program.percent = program.base;
            program.learn = takeNumber(0, MOST_LEARN);
            if (code == 0) {
                link.programCount++;
            }
        }

        private void readOff() {
            take();
            require(token == WORD, 1);
            int program = link.programNamed(word);
            require(program == NONE || link.programs[program].on, 3);
            require(program != NONE, 4);
            take();
            if (code == 0) {
                link.programs[program].on = false;
            }
        }

        private int takeKind() {
            int kind = STEADY;
            if (isWord("meek")) {
                kind = MEEK;
            } else if (isWord("stubborn")) {
                kind = STUBBORN;
            } else if (isWord("copying")) {
                kind = COPYING;
            } else {
                require(isWord("steady"), 1);
            }
            take();
            return kind;
        }

        private int takeNumber(int least, int most) {
            require(token == NUMBER, 1);
            require(number >= least && number <= most, 2);
            int taken = number;
            take();
            return taken;
        }

        private void takeSemicolon() {
            require(token == SEMICOLON, 1);
            take();
        }

        /** The first error that is found is the one with the smallest offset and code. */
        private void require(boolean holds, int errorCode) {
            if (!holds && code == 0) {
                code = errorCode;
            }
        }

        private boolean isWord(String letters) {
            if (token != WORD) {
                return false;
            }
            long packed = 0;
            for (int i = 0; i < letters.length(); i++) {
                packed = withLetter(packed, i, letters.charAt(i) - 'a' + 1);
            }
            return packed == word;
        }

        /** Goes on to the next token; after an error the offset stays at the token of it. */
        private void take() {
            if (code != 0) {
                return;
            }
            while (next < end && (text[next] == ' ' || text[next] == '\n')) {
                next++;
            }
            offset = next;
            if (next >= end) {
                token = END;
            } else if (isLetter(text[next])) {
                scanWord();
            } else if (isDigit(text[next])) {
                scanNumber();
            } else {
                token = text[next] == ';' ? SEMICOLON : INVALID;
                next++;
            }
        }

        private void scanWord() {
            word = 0;
            int letters = 0;
            while (next < end && isLetter(text[next])) {
                if (letters < NAME_LETTERS) {
                    word = withLetter(word, letters, text[next] - 'a' + 1);
                }
                letters++;
                next++;
            }
            token = letters <= NAME_LETTERS ? WORD : INVALID;
        }

        private void scanNumber() {
            number = 0;
            int digits = 0;
            while (next < end && isDigit(text[next])) {
                if (digits < NUMBER_DIGITS) {
                    number = 10 * number + text[next] - '0';
                }
                digits++;
                next++;
            }
            token = digits <= NUMBER_DIGITS ? NUMBER : INVALID;
        }

        private static boolean isLetter(int sign) {
            return sign >= 'a' && sign <= 'z';
        }

        private static boolean isDigit(int sign) {
            return sign >= '0' && sign <= '9';
        }
    }

    private static final class Report {
        final byte[] bytes = new byte[REPORT_BYTES];
        int length = 0;

        void clear() {
            length = 0;
        }

        void putProgram(Program program) {
            putName(program.name);
            put(' ');
            putNumber(program.rate);
            put('%');
            putNumber(program.percent);
            put(' ');
            putNumber(program.counts[DELIVERED]);
            if (!program.on) {
                put('-');
            }
            put('\n');
        }

        private void putName(long name) {
            for (int i = 0; i < NAME_LETTERS && letterOf(name, i) > 0; i++) {
                put('a' - 1 + letterOf(name, i));
            }
        }

        private void putNumber(long number) {
            long unit = 1;
            for (int digits = 1; digits < 18 && number / unit >= 10; digits++) {
                unit *= 10;
            }
            for (; unit > 0; unit /= 10) {
                put((int) ('0' + number / unit % 10));
            }
        }

        private void put(int sign) {
            if (length < bytes.length) {
                bytes[length] = (byte) sign;
                length++;
            }
        }
    }
}
