import java.util.ArrayList;
import java.util.List;
import java.util.Random;

/** Long runs of calls, the same ones each time: every answer has to be that of PlainShaper. */
final class RandomRunsTest {
    private static final int RUNS = 400;
    private static final int CALLS = 512;
    private static final String[] WORDS = {"link", "house", "program", "off", "meek", "steady", "stubborn", "copying",
        "a", "b", "abcdefgh", "abcdefghi", ";", "0", "1", "99", "100", "101", "999", "1000", "9999", "10000", "99999",
        "100000", "00001", "-", "A", "\t", "\u00e9", "\n"};

    private final Random random;
    private final RefundShaper shaper = new RefundShaper();
    private final PlainShaper plain = new PlainShaper();
    private final StringBuilder told = new StringBuilder();
    private int calls = 0;
    private boolean same = true;

    private RandomRunsTest(long seed) {
        random = new Random(seed);
    }

    private int upTo(int most) {
        return random.nextInt(most + 1);
    }

    private int from(int least, int most) {
        return least + upTo(most - least);
    }

    private boolean oneIn(int many) {
        return random.nextInt(many) == 0;
    }

    private void both(String call, Check.Call ours, Check.Call theirs) {
        if (calls == CALLS) {
            return;
        }
        calls++;
        String due = Check.answerOf(theirs);
        String got = Check.answerOf(ours);
        told.append(call).append(" -> ").append(got).append('\n');
        if (!due.equals(got)) {
            same = false;
            told.append("due is ").append(due).append('\n');
        }
    }

    private void run(long seed) {
        parseSome();
        while (calls < CALLS && same) {
            call();
        }
        if (!same) {
            String all = told.toString();
            Check.due("run " + seed + ": " + all.substring(Math.max(0, all.length() - 2000)), "as is due", "otherwise");
        }
    }

    private void append(String text) {
        for (int at = 0; at < text.length(); at += 20) {
            int[] n = new int[5];
            for (int i = 0; i < 5; i++) {
                n[i] = Texts.four(text, at + 4 * i);
            }
            both("append(" + text.substring(at) + ")", () -> shaper.append(n[0], n[1], n[2], n[3], n[4]),
                    () -> plain.append(n[0], n[1], n[2], n[3], n[4]));
        }
    }

    private void parse(int bytes) {
        both("parse(" + bytes + ")", () -> shaper.parse(bytes), () -> plain.parse(bytes));
    }

    private void parseSome() {
        String text = oneIn(3) ? spoilt(text()) : text();
        append(text);
        parse(oneIn(12) ? upTo(720) : text.length());
    }

    private String text() {
        StringBuilder text = new StringBuilder();
        int scale = oneIn(3) ? 999 : from(1, 120);
        int capacity = oneIn(4) ? from(1, 9999) : from(1, 4 * scale);
        int price = oneIn(4) ? from(0, 99) : upTo(3);
        add(text, "link", Math.min(9999, capacity), oneIn(3) ? 100 : from(1, 100), price, upTo(price), upTo(9));
        List<String> houses = new ArrayList<>();
        List<String> programs = new ArrayList<>();
        int many = oneIn(6) ? 12 : from(1, 5);
        int homes = oneIn(6) ? 6 : from(1, 4);
        while (houses.size() < homes) {
            String name = name(houses);
            add(text, "house " + name, oneIn(2) ? 99999 : from(1, 20 * scale), oneIn(3) ? upTo(99999) : 99999);
        }
        while (programs.size() < many && text.length() < 640) {
            String name = name(programs);
            int floor = oneIn(2) ? 0 : upTo(scale);
            int ceiling = from(floor, scale);
            add(text, "program " + name + " " + WORDS[4 + upTo(3)] + " " + houses.get(upTo(houses.size() - 1)), floor,
                    ceiling, from(floor, ceiling), oneIn(2) ? upTo(99) : upTo(9), oneIn(2) ? 0 : upTo(100), upTo(50));
            if (oneIn(6)) {
                add(text, "off " + name);
            }
        }
        return text.toString();
    }

    private String name(List<String> taken) {
        String name;
        do {
            StringBuilder letters = new StringBuilder();
            for (int i = oneIn(2) ? 0 : upTo(7); i >= 0; i--) {
                letters.append((char) ('a' + upTo(25)));
            }
            name = letters.toString();
        } while (taken.contains(name));
        taken.add(name);
        return name;
    }

    private void add(StringBuilder text, String words, int... numbers) {
        text.append(words);
        for (int number : numbers) {
            text.append(oneIn(30) ? '\n' : ' ').append(number);
        }
        text.append(oneIn(3) ? "; " : ";");
    }

    private String spoilt(String text) {
        int from = upTo(text.length());
        String word = WORDS[upTo(WORDS.length - 1)];
        if (oneIn(4)) {
            return text.substring(0, from);
        }
        if (oneIn(3)) {
            int to = Math.min(text.length(), from + upTo(8));
            return text.substring(0, from) + word + text.substring(to);
        }
        int blank = text.indexOf(' ', from);
        int end = blank < 0 ? -1 : text.indexOf(' ', blank + 1);
        return end < 0 ? text + word : text.substring(0, blank + 1) + word + text.substring(end);
    }

    private int program() {
        return oneIn(25) ? from(-2, 13) : upTo(Math.max(0, plain.now.progs.size() - 1));
    }

    private int house() {
        return oneIn(25) ? from(-2, 7) : upTo(Math.max(0, plain.now.houses.size() - 1));
    }

    private int some(int least, int most) {
        if (oneIn(25)) {
            return new int[] {least - 1, least, most, most + 1, Integer.MIN_VALUE, Integer.MAX_VALUE}[upTo(5)];
        }
        return oneIn(3) ? from(least, most) : from(least, Math.min(most, least + 12));
    }

    private void call() {
        int kind = upTo(99);
        if (kind < 12) {
            int slots = some(1, 200);
            both("run " + slots, () -> shaper.run(slots), () -> plain.run(slots));
        } else if (kind < 30) {
            change(upTo(6));
        } else if (kind < 60) {
            tell(upTo(11));
        } else if (kind < 72) {
            guess(upTo(6));
        } else if (kind < 80) {
            hours();
        } else if (kind < 92) {
            keep(upTo(6));
        } else {
            both("checksum", shaper::checksum, plain::checksum);
            if (oneIn(12)) {
                parseSome();
            }
        }
    }

    private void change(int which) {
        int p = program();
        int h = house();
        int n;
        switch (which) {
            case 0:
                boolean on = oneIn(2);
                both("turn " + p + on, () -> shaper.turn(p, on), () -> plain.turn(p, on));
                break;
            case 1:
                n = p >= 0 && p < plain.now.progs.size()
                        ? some(plain.now.progs.get(p).floor, plain.now.progs.get(p).ceiling) : 0;
                both("setRate " + p + " " + n, () -> shaper.setRate(p, n), () -> plain.setRate(p, n));
                break;
            case 2:
                n = some(0, 100);
                both("setYield " + p + " " + n, () -> shaper.setYield(p, n), () -> plain.setYield(p, n));
                break;
            case 3:
                n = oneIn(2) ? some(1, 500) : some(1, 99999);
                both("setCap " + h + " " + n, () -> shaper.setCap(h, n), () -> plain.setCap(h, n));
                break;
            case 4:
                n = oneIn(2) ? 99999 : some(1, 99999);
                both("topUp " + h + " " + n, () -> shaper.topUp(h, n), () -> plain.topUp(h, n));
                break;
            case 5:
                n = oneIn(2) ? some(1, 9999) : from(1, 300);
                int threshold = some(1, 100);
                both("setLink " + n + " " + threshold, () -> shaper.setLink(n, threshold),
                        () -> plain.setLink(n, threshold));
                break;
            default:
                n = some(0, 99);
                int refund = oneIn(20) ? n + 1 : some(0, Math.max(0, Math.min(n, 99)));
                both("setPrices " + n + " " + refund, () -> shaper.setPrices(n, refund),
                        () -> plain.setPrices(n, refund));
                break;
        }
    }

    private void tell(int which) {
        int p = program();
        int h = house();
        int what = oneIn(25) ? from(-1, 13) : upTo(7);
        switch (which) {
            case 0:
                int of = from(-1, 13);
                both("size " + of, () -> shaper.size(of), () -> plain.size(of));
                break;
            case 1:
                int about = from(-1, 6);
                both("household " + h + " " + about, () -> shaper.household(h, about), () -> plain.household(h, about));
                break;
            case 2:
                int kind = from(-1, 11);
                both("program " + p + " " + kind, () -> shaper.program(p, kind), () -> plain.program(p, kind));
                break;
            case 3:
                boolean home = oneIn(2);
                int which2 = home ? h : p;
                int index = oneIn(10) ? random.nextInt() : from(-1, 9);
                both("letter " + home + which2 + " " + index, () -> shaper.letter(home, which2, index),
                        () -> plain.letter(home, which2, index));
                break;
            case 4:
                both("counted " + p + " " + what, () -> shaper.counted(p, what), () -> plain.counted(p, what));
                break;
            case 5:
                both("total " + what, () -> shaper.total(what), () -> plain.total(what));
                break;
            case 6:
                both("latest " + p + " " + what, () -> shaper.latest(p, what), () -> plain.latest(p, what));
                break;
            case 7:
                both("isWarned", shaper::isWarned, plain::isWarned);
                break;
            case 8:
                both("served " + p, () -> shaper.served(p), () -> plain.served(p));
                break;
            case 9:
                both("mostYielding", shaper::mostYielding, plain::mostYielding);
                break;
            case 10:
                int k = from(-1, 12);
                both("dropRow " + k, () -> shaper.dropRow(k), () -> plain.dropRow(k));
                break;
            default:
                both("fairnessOfPrograms", shaper::fairnessOfPrograms, plain::fairnessOfPrograms);
                break;
        }
    }

    private void guess(int which) {
        int p = program();
        int few = some(1, 10);
        switch (which) {
            case 0:
                int many = some(0, 200);
                both("dropsIn " + many, () -> shaper.dropsIn(many), () -> plain.dropsIn(many));
                break;
            case 1:
                int slots = some(0, 200);
                both("deliveredIn " + p + " " + slots, () -> shaper.deliveredIn(p, slots),
                        () -> plain.deliveredIn(p, slots));
                break;
            case 2:
                both("firstDrop", shaper::firstDrop, plain::firstDrop);
                break;
            case 3:
                both("calmIn", shaper::calmIn, plain::calmIn);
                break;
            case 4:
                int thirty = some(1, 30);
                both("bestThreshold " + thirty, () -> shaper.bestThreshold(thirty), () -> plain.bestThreshold(thirty));
                break;
            case 5:
                both("neededCapacity " + few, () -> shaper.neededCapacity(few), () -> plain.neededCapacity(few));
                break;
            default:
                int fifty = some(1, 50);
                both("culprit " + fifty, () -> shaper.culprit(fifty), () -> plain.culprit(fifty));
                break;
        }
    }

    private void hours() {
        int h = house();
        int ended = plain.now.time / 12;
        int hour = oneIn(20) ? random.nextInt() : from(Math.max(-1, ended - 26), ended + 1);
        both("hour " + hour + " " + h, () -> shaper.hour(hour, h), () -> plain.hour(hour, h));
        both("fairness " + hour, () -> shaper.fairness(hour), () -> plain.fairness(hour));
        both("unfairest", shaper::unfairest, plain::unfairest);
    }

    private void keep(int which) {
        int slot = oneIn(10) ? from(-1, 2) : upTo(1);
        switch (which) {
            case 0:
                both("report", shaper::report, plain::report);
                break;
            case 1:
                int index = oneIn(10) ? random.nextInt() : from(-1, plain.report.length());
                both("reportByte " + index, () -> shaper.reportByte(index), () -> plain.reportByte(index));
                break;
            case 2:
            case 3:
            case 4:
                both("undo", shaper::undo, plain::undo);
                break;
            case 5:
                both("saveSnapshot " + slot, () -> shaper.saveSnapshot(slot), () -> plain.saveSnapshot(slot));
                break;
            default:
                both("restoreSnapshot " + slot, () -> shaper.restoreSnapshot(slot), () -> plain.restoreSnapshot(slot));
                break;
        }
    }

    public static void main(String[] arguments) {
        int runs = arguments.length > 0 ? Integer.parseInt(arguments[0]) : RUNS;
        for (int seed = 1; seed <= runs; seed++) {
            new RandomRunsTest(seed).run(seed);
        }
        Check.end("RandomRunsTest");
    }
}
