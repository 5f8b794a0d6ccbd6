import java.util.ArrayDeque;
import java.util.ArrayList;
import java.util.Arrays;
import java.util.Comparator;
import java.util.Deque;
import java.util.List;
import java.util.NoSuchElementException;
import java.util.TreeMap;

/**
 * The document once more, written apart from RefundShaper and without any thought of speed: units are dropped
 * one at a time, each capacity is tried, each copy is a deep one. RandomRunsTest compares the two.
 */
final class PlainShaper {
    static final class House {
        String name;
        int cap;
        int balance;
        int used;
        int delivered;

        House copy() {
            House house = new House();
            house.name = name;
            house.cap = cap;
            house.balance = balance;
            house.used = used;
            house.delivered = delivered;
            return house;
        }
    }

    static final class Prog {
        String name;
        int house;
        int kind;
        int rate;
        int floor;
        int ceiling;
        int gain;
        int yields;
        int learn;
        int base;
        int misses;
        boolean on = true;
        int[] latest = new int[6];
        long[] counted = new long[8];

        Prog copy() {
            Prog prog = new Prog();
            prog.name = name;
            prog.house = house;
            prog.kind = kind;
            prog.rate = rate;
            prog.floor = floor;
            prog.ceiling = ceiling;
            prog.gain = gain;
            prog.yields = yields;
            prog.learn = learn;
            prog.base = base;
            prog.misses = misses;
            prog.on = on;
            prog.latest = latest.clone();
            prog.counted = counted.clone();
            return prog;
        }

        int admitted() {
            return latest[0] - latest[1] - latest[2];
        }

        int sent() {
            return admitted() - latest[3];
        }
    }

    static final class State {
        int capacity;
        int threshold;
        int price;
        int refund;
        int forget;
        int time;
        int warnedSlots;
        int dropSlots;
        boolean warned;
        List<House> houses = new ArrayList<>();
        List<Prog> progs = new ArrayList<>();
        TreeMap<Integer, int[]> hours = new TreeMap<>();

        State copy() {
            State state = new State();
            state.capacity = capacity;
            state.threshold = threshold;
            state.price = price;
            state.refund = refund;
            state.forget = forget;
            state.time = time;
            state.warnedSlots = warnedSlots;
            state.dropSlots = dropSlots;
            state.warned = warned;
            for (House house : houses) {
                state.houses.add(house.copy());
            }
            for (Prog prog : progs) {
                state.progs.add(prog.copy());
            }
            for (int hour : hours.keySet()) {
                state.hours.put(hour, hours.get(hour).clone());
            }
            return state;
        }

        int slots(int slots) {
            int dropped = 0;
            for (int i = 0; i < slots; i++) {
                dropped += slot();
            }
            return dropped;
        }

        int slot() {
            int all = 0;
            for (Prog prog : progs) {
                House house = houses.get(prog.house);
                prog.latest = new int[6];
                int left = Math.max(0, house.cap - house.used);
                for (int unit = 0; prog.on && unit < prog.rate; unit++) {
                    prog.latest[0]++;
                    if (unit >= left) {
                        prog.latest[1]++;
                    } else if (house.balance < price) {
                        prog.latest[2]++;
                    } else {
                        house.used++;
                        house.balance -= price;
                        prog.counted[6] += price;
                        all++;
                    }
                }
            }
            warned = 100L * all > (long) threshold * capacity;
            if (warned) {
                warnedSlots++;
                for (Prog prog : progs) {
                    prog.latest[3] = prog.admitted() * prog.yields / 100;
                    houses.get(prog.house).balance += prog.latest[3] * refund;
                    prog.counted[7] += (long) prog.latest[3] * refund;
                }
            }
            int dropped = drop();
            for (Prog prog : progs) {
                prog.latest[5] = prog.sent() - prog.latest[4];
                houses.get(prog.house).delivered += prog.latest[5];
                for (int i = 0; i < 6; i++) {
                    prog.counted[i] += prog.latest[i];
                }
            }
            learn();
            time++;
            if (time % 12 == 0) {
                hours.put(time / 12 - 1, houses.stream().mapToInt(h -> h.delivered).toArray());
                while (hours.size() > 24) {
                    hours.pollFirstEntry();
                }
                for (House house : houses) {
                    house.used = 0;
                    house.delivered = 0;
                }
            }
            return dropped;
        }

        private int drop() {
            int sent = 0;
            for (Prog prog : progs) {
                sent += prog.sent();
            }
            int excess = Math.max(0, sent - capacity);
            if (excess == 0) {
                return 0;
            }
            dropSlots++;
            List<Prog> meekNot = new ArrayList<>();
            List<Prog> yielders = new ArrayList<>();
            for (Prog prog : progs) {
                (prog.latest[3] == 0 ? meekNot : yielders).add(prog);
            }
            int sentNot = meekNot.stream().mapToInt(Prog::sent).sum();
            if (sentNot < excess) {
                for (Prog prog : meekNot) {
                    prog.latest[4] = prog.sent();
                }
                dropAmong(yielders, excess - sentNot);
            } else {
                dropAmong(meekNot, excess);
            }
            return excess;
        }

        private static void dropAmong(List<Prog> some, int number) {
            int sent = some.stream().mapToInt(Prog::sent).sum();
            int done = 0;
            for (Prog prog : some) {
                prog.latest[4] = (int) ((long) number * prog.sent() / sent);
                done += prog.latest[4];
            }
            int at = 0;
            while (done < number) {
                Prog prog = some.get(at);
                if (prog.latest[4] < prog.sent()) {
                    prog.latest[4]++;
                    done++;
                }
                at = (at + 1) % some.size();
            }
        }

        private void learn() {
            Prog most = null;
            for (Prog prog : progs) {
                if (prog.latest[3] > (most == null ? 0 : most.latest[3])) {
                    most = prog;
                }
            }
            int theirs = most == null ? -1 : most.yields;
            for (Prog prog : progs) {
                if (!prog.on) {
                    continue;
                }
                if (prog.latest[4] > 0) {
                    prog.misses++;
                    int now = prog.yields;
                    if (prog.kind == 0) {
                        now += 2 * prog.learn;
                    } else if (prog.kind == 1) {
                        now += prog.learn;
                    } else if (prog.kind == 2) {
                        now += prog.misses % 2 == 0 ? prog.learn : 0;
                    } else {
                        now = theirs > now ? theirs : now + prog.learn;
                    }
                    prog.yields = Math.min(100, now);
                    prog.rate = Math.max(prog.floor, prog.rate - prog.rate / 4);
                } else if (prog.latest[3] > 0) {
                    prog.misses = 0;
                    prog.rate = Math.max(prog.floor, prog.rate - prog.latest[3]);
                } else {
                    prog.misses = 0;
                    prog.rate = Math.min(prog.ceiling, prog.rate + prog.gain);
                    if (!warned && prog.yields >= prog.base) {
                        prog.yields = Math.max(prog.base, prog.yields - forget);
                    }
                }
            }
        }
    }

    /** An error in a text. */
    static final class TextError extends Exception {
        final int offset;
        final int code;

        TextError(int offset, int code) {
            this.offset = offset;
            this.code = code;
        }
    }

    /** A text cut into tokens first, then read. */
    static final class Reader {
        final List<String> tokens = new ArrayList<>();
        final List<Integer> offsets = new ArrayList<>();
        final int length;
        int at = 0;

        Reader(String text) {
            length = text.length();
            java.util.regex.Matcher matcher = java.util.regex.Pattern.compile("[a-z]+|[0-9]+|[^ \n]").matcher(text);
            while (matcher.find()) {
                tokens.add(matcher.group());
                offsets.add(matcher.start());
            }
        }

        int offset() {
            return at < offsets.size() ? offsets.get(at) : length;
        }

        void fail(int code) throws TextError {
            throw new TextError(offset(), code);
        }

        String next(String pattern) throws TextError {
            if (at >= tokens.size() || !tokens.get(at).matches(pattern)) {
                fail(1);
            }
            return tokens.get(at);
        }

        void skip(String pattern) throws TextError {
            next(pattern);
            at++;
        }

        int number(int least, int most) throws TextError {
            int number = Integer.parseInt(next("[0-9]{1,5}"));
            if (number < least || number > most) {
                fail(2);
            }
            at++;
            return number;
        }

        State read() throws TextError {
            State state = new State();
            skip("link");
            state.capacity = number(1, 9999);
            state.threshold = number(1, 100);
            state.price = number(0, 99);
            state.refund = number(0, state.price);
            state.forget = number(0, 9);
            skip(";");
            while (at < tokens.size()) {
                String first = next("house|program|off");
                if (first.equals("house")) {
                    house(state);
                } else if (first.equals("program")) {
                    prog(state);
                } else {
                    off(state);
                }
                skip(";");
            }
            return state;
        }

        private void house(State state) throws TextError {
            if (state.houses.size() == 6) {
                fail(5);
            }
            at++;
            House house = new House();
            house.name = next("[a-z]{1,8}");
            for (House other : state.houses) {
                if (other.name.equals(house.name)) {
                    fail(3);
                }
            }
            at++;
            house.cap = number(1, 99999);
            house.balance = number(0, 99999);
            state.houses.add(house);
        }

        private void prog(State state) throws TextError {
            if (state.progs.size() == 12) {
                fail(5);
            }
            at++;
            Prog prog = new Prog();
            prog.name = next("[a-z]{1,8}");
            for (Prog other : state.progs) {
                if (other.name.equals(prog.name)) {
                    fail(3);
                }
            }
            at++;
            prog.kind = Arrays.asList("meek", "steady", "stubborn", "copying")
                    .indexOf(next("meek|steady|stubborn|copying"));
            at++;
            String home = next("[a-z]{1,8}");
            prog.house = -1;
            for (int h = 0; h < state.houses.size(); h++) {
                if (state.houses.get(h).name.equals(home)) {
                    prog.house = h;
                }
            }
            if (prog.house < 0) {
                fail(4);
            }
            at++;
            prog.floor = number(0, 999);
            prog.ceiling = number(prog.floor, 999);
            prog.rate = number(prog.floor, prog.ceiling);
            prog.gain = number(0, 99);
            prog.yields = number(0, 100);
            prog.base = prog.yields;
            prog.learn = number(0, 50);
            state.progs.add(prog);
        }

        private void off(State state) throws TextError {
            at++;
            String name = next("[a-z]{1,8}");
            for (Prog prog : state.progs) {
                if (prog.name.equals(name)) {
                    if (!prog.on) {
                        fail(3);
                    }
                    prog.on = false;
                    at++;
                    return;
                }
            }
            fail(4);
        }
    }

    State now = new State();
    String buffer = "";
    String report = "";
    final Deque<State> past = new ArrayDeque<>();
    final State[] snapshots = new State[2];

    PlainShaper() {
        now.capacity = 100;
        now.threshold = 80;
        now.price = 1;
        now.refund = 1;
        now.forget = 1;
    }

    private static void range(int number, int least, int most) {
        if (number < least || number > most) {
            throw new IllegalArgumentException();
        }
    }

    private House house(int house) {
        if (house < 0 || house >= now.houses.size()) {
            throw new IndexOutOfBoundsException();
        }
        return now.houses.get(house);
    }

    private Prog prog(int prog) {
        if (prog < 0 || prog >= now.progs.size()) {
            throw new IndexOutOfBoundsException();
        }
        return now.progs.get(prog);
    }

    private void change() {
        past.addLast(now.copy());
        if (past.size() > 8) {
            past.removeFirst();
        }
    }

    int append(int a, int b, int c, int d, int e) {
        if (buffer.length() + 20 > 700) {
            return -1;
        }
        for (int number : new int[] {a, b, c, d, e}) {
            for (int shift = 24; shift >= 0; shift -= 8) {
                buffer += (char) (number >>> shift & 255);
            }
        }
        return buffer.length();
    }

    int parse(int bytes) {
        range(bytes, 0, buffer.length());
        String text = buffer.substring(0, bytes);
        buffer = "";
        try {
            now = new Reader(text).read();
        } catch (TextError e) {
            return -2 - (8 * e.offset + e.code);
        }
        past.clear();
        Arrays.fill(snapshots, null);
        return now.progs.size();
    }

    int size(int what) {
        range(what, 0, 12);
        return new int[] {now.houses.size(), now.progs.size(), now.capacity, now.threshold, now.price, now.refund,
            now.forget, now.time, now.hours.size(), past.size(), buffer.length(), now.warnedSlots,
            now.dropSlots}[what];
    }

    int household(int household, int what) {
        House house = house(household);
        range(what, 0, 5);
        int all = (int) now.progs.stream().filter(p -> p.house == household).count();
        int on = (int) now.progs.stream().filter(p -> p.house == household && p.on).count();
        return new int[] {house.cap, house.balance, house.used, house.delivered, all, on}[what];
    }

    int program(int program, int what) {
        Prog prog = prog(program);
        range(what, 0, 10);
        return new int[] {prog.house, prog.kind, prog.rate, prog.floor, prog.ceiling, prog.gain, prog.yields,
            prog.learn, prog.base, prog.misses, prog.on ? 1 : 0}[what];
    }

    int letter(boolean isHousehold, int which, int index) {
        String name = isHousehold ? house(which).name : prog(which).name;
        return index < 0 || index >= name.length() ? 0 : name.charAt(index) - 96;
    }

    long counted(int program, int what) {
        Prog prog = prog(program);
        range(what, 0, 7);
        return prog.counted[what];
    }

    long total(int what) {
        range(what, 0, 7);
        return now.progs.stream().mapToLong(p -> p.counted[what]).sum();
    }

    int latest(int program, int what) {
        Prog prog = prog(program);
        range(what, 0, 5);
        return now.time == 0 ? -1 : prog.latest[what];
    }

    boolean isWarned() {
        return now.warned;
    }

    int hour(int hour, int household) {
        house(household);
        if (!now.hours.containsKey(hour)) {
            throw new NoSuchElementException();
        }
        return now.hours.get(hour)[household];
    }

    private static double fair(List<Long> numbers) {
        long sum = numbers.stream().mapToLong(n -> n).sum();
        long squares = numbers.stream().mapToLong(n -> n * n).sum();
        return squares == 0 ? 1.0 : (double) (sum * sum) / (double) (numbers.size() * squares);
    }

    double fairness(int hour) {
        if (!now.hours.containsKey(hour)) {
            throw new NoSuchElementException();
        }
        List<Long> numbers = new ArrayList<>();
        for (int h = 0; h < now.houses.size(); h++) {
            int home = h;
            if (now.progs.stream().anyMatch(p -> p.house == home)) {
                numbers.add((long) now.hours.get(hour)[h]);
            }
        }
        return fair(numbers);
    }

    double fairnessOfPrograms() {
        List<Long> numbers = new ArrayList<>();
        now.progs.forEach(p -> numbers.add(p.counted[5]));
        return fair(numbers);
    }

    int unfairest() {
        return now.hours.keySet().stream().min(Comparator.comparingDouble(this::fairness)).orElse(-1);
    }

    float served(int program) {
        Prog prog = prog(program);
        return prog.counted[0] == 0 ? 1.0f : (float) prog.counted[5] / (float) prog.counted[0];
    }

    private List<Integer> row(int what) {
        List<Integer> row = new ArrayList<>();
        for (int p = 0; p < now.progs.size(); p++) {
            row.add(p);
        }
        row.sort(Comparator.comparingLong(p -> -now.progs.get(p).counted[what]));
        return row;
    }

    int mostYielding() {
        List<Integer> row = row(3);
        return row.isEmpty() || now.progs.get(row.get(0)).counted[3] == 0 ? -1 : row.get(0);
    }

    int dropRow(int k) {
        return k < 0 || k >= now.progs.size() ? -1 : row(4).get(k);
    }

    int dropsIn(int slots) {
        range(slots, 0, 200);
        return now.copy().slots(slots);
    }

    int deliveredIn(int program, int slots) {
        long before = prog(program).counted[5];
        range(slots, 0, 200);
        State trial = now.copy();
        trial.slots(slots);
        return (int) (trial.progs.get(program).counted[5] - before);
    }

    int firstDrop() {
        for (int slots = 1; slots <= 200; slots++) {
            if (now.copy().slots(slots) > 0) {
                return slots;
            }
        }
        return -1;
    }

    int calmIn() {
        State trial = now.copy();
        int[] drops = new int[203];
        for (int slot = 1; slot <= 202; slot++) {
            drops[slot] = trial.slot();
        }
        for (int slot = 1; slot <= 200; slot++) {
            if (drops[slot] + drops[slot + 1] + drops[slot + 2] == 0) {
                return slot;
            }
        }
        return -1;
    }

    int bestThreshold(int slots) {
        range(slots, 1, 30);
        int best = -1;
        int fewest = Integer.MAX_VALUE;
        for (int threshold = 1; threshold <= 100; threshold++) {
            State trial = now.copy();
            trial.threshold = threshold;
            int dropped = trial.slots(slots);
            if (dropped <= fewest) {
                best = threshold;
                fewest = dropped;
            }
        }
        return best;
    }

    int neededCapacity(int slots) {
        range(slots, 1, 10);
        for (int capacity = 1; capacity <= 9999; capacity++) {
            State trial = now.copy();
            trial.capacity = capacity;
            int dropped = 0;
            for (int i = 0; i < slots && dropped == 0; i++) {
                dropped = trial.slot();
            }
            if (dropped == 0) {
                return capacity;
            }
        }
        return -1;
    }

    int culprit(int slots) {
        range(slots, 1, 50);
        int fewest = now.copy().slots(slots);
        int found = -1;
        for (int p = 0; p < now.progs.size(); p++) {
            if (now.progs.get(p).on) {
                State trial = now.copy();
                trial.progs.get(p).on = false;
                int dropped = trial.slots(slots);
                if (dropped < fewest) {
                    fewest = dropped;
                    found = p;
                }
            }
        }
        return found;
    }

    int run(int slots) {
        range(slots, 1, 200);
        range(now.time + slots, 0, 100000);
        change();
        return now.slots(slots);
    }

    boolean turn(int program, boolean on) {
        Prog prog = prog(program);
        change();
        boolean was = prog.on;
        prog.on = on;
        return was;
    }

    int setRate(int program, int rate) {
        Prog prog = prog(program);
        range(rate, prog.floor, prog.ceiling);
        change();
        int was = prog.rate;
        prog.rate = rate;
        return was;
    }

    int setYield(int program, int percent) {
        Prog prog = prog(program);
        range(percent, 0, 100);
        change();
        int was = prog.yields;
        prog.yields = percent;
        return was;
    }

    int setCap(int household, int cap) {
        House house = house(household);
        range(cap, 1, 99999);
        change();
        int was = house.cap;
        house.cap = cap;
        return was;
    }

    int topUp(int household, int coins) {
        House house = house(household);
        range(coins, 1, 99999);
        if (house.balance + coins > 9999999) {
            throw new IllegalStateException();
        }
        change();
        house.balance += coins;
        return house.balance;
    }

    int setLink(int capacity, int threshold) {
        range(capacity, 1, 9999);
        range(threshold, 1, 100);
        change();
        int was = now.capacity;
        now.capacity = capacity;
        now.threshold = threshold;
        return was;
    }

    int setPrices(int price, int refund) {
        range(price, 0, 99);
        range(refund, 0, price);
        change();
        int was = now.price;
        now.price = price;
        now.refund = refund;
        return was;
    }

    int report() {
        report = "";
        for (Prog prog : now.progs) {
            report += prog.name + " " + prog.rate + "%" + prog.yields + " " + prog.counted[5]
                    + (prog.on ? "" : "-") + "\n";
        }
        return report.length();
    }

    int reportByte(int index) {
        return index < 0 || index >= report.length() ? -1 : report.charAt(index);
    }

    int undo() {
        if (past.isEmpty()) {
            return -1;
        }
        now = past.removeLast();
        return past.size();
    }

    boolean saveSnapshot(int slot) {
        range(slot, 0, 1);
        boolean was = snapshots[slot] != null;
        snapshots[slot] = now.copy();
        return was;
    }

    int restoreSnapshot(int slot) {
        range(slot, 0, 1);
        if (snapshots[slot] == null) {
            throw new IllegalStateException();
        }
        now = snapshots[slot].copy();
        past.clear();
        return now.time;
    }

    long checksum() {
        List<Long> numbers = new ArrayList<>();
        for (int what : new int[] {2, 3, 4, 5, 6, 7, 8, 11, 12}) {
            numbers.add((long) size(what));
        }
        for (int h = 0; h < now.houses.size(); h++) {
            for (int what = 0; what < 4; what++) {
                numbers.add((long) household(h, what));
            }
        }
        for (int p = 0; p < now.progs.size(); p++) {
            numbers.add((long) program(p, 2));
            numbers.add((long) program(p, 6));
            numbers.add((long) program(p, 9));
            for (int what = 0; what < 8; what++) {
                numbers.add(counted(p, what));
            }
        }
        long sum = 0;
        for (long number : numbers) {
            sum = 31 * sum + number;
        }
        return sum;
    }
}
