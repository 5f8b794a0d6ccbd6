import java.util.NoSuchElementException;

/** What is told, sentence by sentence, at the edges: none, one, all there can be, and large numbers. */
final class ToldEdgesTest {
    private ToldEdgesTest() {
    }

    private static String digits(int[] numbers) {
        StringBuilder text = new StringBuilder();
        for (int number : numbers) {
            text.append(text.length() > 0 ? " " : "").append(number);
        }
        return text.toString();
    }

    /** Six households with two programs each that offer these units in each slot, and nothing is in their way. */
    private static RefundShaper twelve(int... rates) {
        StringBuilder text = new StringBuilder("link 9999 100 0 0 0;");
        for (int p = 0; p < 12; p++) {
            String name = "" + (char) ('a' + p);
            String home = "" + (char) ('a' + p / 2);
            text.append(p % 2 == 0 ? "house " + home + " 99999 0;" : "");
            text.append("program ").append(name).append(" meek ").append(home).append(" 0 999 ").append(rates[p])
                    .append(" 0 0 0;");
        }
        return Texts.of(text.toString());
    }

    private static void sizes() {
        Check.sentence("8 hours that are kept");
        RefundShaper shaper = Texts.of("link 9 100 0 0 0;house h 99 0;program p meek h 0 9 1 0 0 0;");
        int[] runs = {11, 1, 11, 1, 200, 63, 1, 11, 1, 12};
        int[] hours = {0, 1, 1, 2, 18, 23, 24, 24, 24, 24};
        for (int i = 0; i < runs.length; i++) {
            shaper.run(runs[i]);
            Check.due("hours at " + shaper.size(7), hours[i], shaper.size(8));
        }
        Check.sentence("the latest 24 hours are kept");
        for (int none : new int[] {-24, -22, -1, 0, 1, 26, 49, 50, Integer.MIN_VALUE, Integer.MAX_VALUE}) {
            Check.dueThrow("hour " + none + " of 26", NoSuchElementException.class, () -> shaper.hour(none, 0));
            Check.dueThrow("hour " + none + " of none", IndexOutOfBoundsException.class, () -> shaper.hour(none, 1));
            Check.dueThrow("fairness " + none + " of 26", NoSuchElementException.class, () -> shaper.fairness(none));
        }
        for (int hour = 2; hour <= 25; hour++) {
            Check.due("hour " + hour + " of 26", 12, shaper.hour(hour, 0));
            Check.due("fairness " + hour + " of 26", 1.0, shaper.fairness(hour));
        }
        Check.sentence("11 slots that were warned, 12 slots in which units were dropped");
        RefundShaper slots = Texts.of("link 9 50 0 0 0;house h 99 0;program p meek h 0 9 9 0 0 0;");
        int[] capacities = {9, 8, 18, 17, 1, 9};
        int[] warned = {1, 2, 2, 3, 4, 5};
        int[] dropping = {0, 1, 1, 1, 2, 2};
        for (int i = 0; i < capacities.length; i++) {
            slots.setLink(capacities[i], 50);
            slots.setRate(0, 9);
            slots.run(1);
            Check.due("warned slots", warned[i], slots.size(11));
            Check.due("slots with drops", dropping[i], slots.size(12));
        }
        slots.undo();
        Check.due("warned slots behind undo", 4, slots.size(11));
        Check.due("slots with drops behind undo", 2, slots.size(12));
    }

    private static void programsOfHouseholds() {
        Check.sentence("4 its programs, 5 its programs that are on");
        StringBuilder text = new StringBuilder("link 9 9 0 0 0;house a 9 9;house b 9 9;house c 9 9;program p meek a 0 0 0 0 0 0;");
        for (int p = 0; p < 11; p++) {
            text.append("program p").append((char) ('a' + p)).append(" meek c 0 0 0 0 0 0;");
        }
        RefundShaper shaper = Texts.of(text + "off p;off pa;off pk;");
        int[][] due = {{1, 0}, {0, 0}, {11, 9}};
        for (int h = 0; h < 3; h++) {
            Check.due("programs of " + h, due[h][0], shaper.household(h, 4));
            Check.due("programs of " + h + " that are on", due[h][1], shaper.household(h, 5));
        }
        for (int p = 0; p < 12; p++) {
            shaper.turn(p, true);
        }
        Check.due("programs of 2 when all are on", 11, shaper.household(2, 5));
    }

    private static void fullTable() {
        Check.sentence("There are at most 6 households, numbered from 0");
        RefundShaper shaper = twelve(1, 2, 3, 4, 5, 6, 7, 8, 9, 10, 11, 12);
        shaper.run(12);
        int[] hour = {36, 84, 132, 180, 228, 276};
        for (int h = 0; h < 6; h++) {
            Check.due("hour 0 of " + h, hour[h], shaper.hour(0, h));
            Check.due("letter of household " + h, h + 1, shaper.letter(true, h, 0));
        }
        Check.due("fairness of six", (double) (936L * 936) / (double) (6 * 186336L), shaper.fairness(0));
        Check.due("unfairest", 0, shaper.unfairest());
        Check.sentence("There are at most 12 programs, numbered from 0");
        for (int p = 0; p < 12; p++) {
            Check.due("letter of program " + p, p + 1, shaper.letter(false, p, 0));
            Check.due("counted of " + p, 12 * (p + 1), shaper.counted(p, 5));
            Check.due("served of " + p, 1.0f, shaper.served(p));
        }
        Check.due("total", 936, shaper.total(5));
        Check.due("fairness of twelve", (double) (936L * 936) / (double) (12 * 93600L), shaper.fairnessOfPrograms());
        Check.sentence("NONE if none yielded any");
        Check.due("mostYielding of no yields", -1, shaper.mostYielding());
        Check.due("mostYielding of no program", -1, new RefundShaper().mostYielding());
        Check.sentence("Returns the program that yielded the most units since the text was parsed, of several the lowest one");
        shaper.setLink(77, 100);
        shaper.setYield(11, 50);
        shaper.setYield(10, 55);
        shaper.run(1);
        Check.due("yielded", "0 0 0 0 0 0 0 0 0 0 6 6", Scenes.latest(shaper, 3));
        Check.due("mostYielding of equal ones", 10, shaper.mostYielding());
        shaper.setLink(60, 100);
        shaper.setRate(11, 12);
        shaper.setYield(10, 0);
        shaper.run(1);
        Check.due("mostYielding", 11, shaper.mostYielding());
        rows();
    }

    private static void rows() {
        Check.sentence("the k-th program in the row of all programs by dropped units since the text was parsed, the most first, of several the lowest number");
        RefundShaper shaper = twelve(9, 1, 9, 1, 20, 9, 1, 9, 30, 1, 9, 20);
        rowIs(shaper, 0, 1, 2, 3, 4, 5, 6, 7, 8, 9, 10, 11);
        shaper.setLink(1, 100);
        shaper.run(1);
        Check.due("dropped", "9 1 9 1 20 9 1 9 30 1 9 19", Scenes.latest(shaper, 4));
        rowIs(shaper, 8, 4, 11, 0, 2, 5, 7, 10, 1, 3, 6, 9);
        Check.sentence("NONE if there is none such");
        for (int k : new int[] {-1, 12, 13, Integer.MIN_VALUE, Integer.MAX_VALUE}) {
            Check.due("dropRow " + k, -1, shaper.dropRow(k));
        }
        Check.due("dropRow 0 of no program", -1, new RefundShaper().dropRow(0));
        RefundShaper one = Texts.of("link 9 9 0 0 0;house h 9 9;program p meek h 0 0 0 0 0 0;");
        Check.due("dropRow 0 of one", 0, one.dropRow(0));
        Check.due("dropRow 1 of one", -1, one.dropRow(1));
    }

    private static void rowIs(RefundShaper shaper, int... due) {
        int[] row = new int[due.length];
        for (int k = 0; k < due.length; k++) {
            row[k] = shaper.dropRow(k);
        }
        Check.due("dropRow", digits(due), digits(row));
    }

    private static void largeNumbers() {
        Check.sentence("computed as longs, each converted to double, and divided");
        int[] rates = {976, 960, 973, 970, 953, 979, 963, 971, 956, 199, 338, 126};
        RefundShaper shaper = twelve(rates);
        for (int i = 0; i < 430; i++) {
            shaper.run(200);
        }
        shaper.run(17);
        long sum = 0;
        long squares = 0;
        for (int rate : rates) {
            sum += 86017L * rate;
            squares += 86017L * rate * 86017L * rate;
        }
        Check.due("fairnessOfPrograms", (double) (sum * sum) / (double) (12 * squares), shaper.fairnessOfPrograms());
        Check.due("total", sum, shaper.total(5));
        RefundShaper hours = Texts.of("link 9999 100 0 0 0;house a 99999 0;house b 99999 0;program a meek a 0 999 999 0 0 0;"
                + "program b meek a 0 999 999 0 0 0;program c meek a 0 999 999 0 0 0;program d meek a 0 999 999 0 0 0;"
                + "program e meek a 0 999 999 0 0 0;program f meek b 0 999 999 0 0 0;");
        hours.run(12);
        Check.due("fairness", (double) (71928L * 71928) / (double) (2 * (59940L * 59940 + 11988L * 11988)), hours.fairness(0));
        Check.sentence("as a float, divided by those that it offered, as a float");
        RefundShaper float24 = Texts.of("link 998 100 0 0 0;house h 99999 0;program p meek h 999 999 999 0 0 0;");
        for (int i = 0; i < 100; i++) {
            float24.run(200);
        }
        float24.run(1);
        Check.due("served", (float) (998L * 20001) / (float) (999L * 20001), float24.served(0));
        Check.sentence("Returns a count of a program");
        RefundShaper paid = Texts.of("link 9999 100 99 99 0;house h 99999 99999;program p meek h 999 999 999 0 0 0;");
        paid.run(1);
        Check.due("paid", 98901, paid.counted(0, 6));
        Check.due("refunded", 0, paid.counted(0, 7));
    }

    private static void fairnessOfFew() {
        Check.sentence("it is 1.0 if all of them are 0 or there are none");
        Check.due("no programs", 1.0, new RefundShaper().fairnessOfPrograms());
        RefundShaper empty = new RefundShaper();
        empty.run(12);
        Check.due("no households", 1.0, empty.fairness(0));
        Check.due("unfairest without households", 0, empty.unfairest());
        RefundShaper none = Texts.of("link 9 9 0 0 0;house a 9 0;house b 9 0;house c 9 0;program p meek b 0 9 0 0 0 0;");
        none.run(12);
        Check.due("all are 0", 1.0, none.fairness(0));
        Check.due("all are 0", 1.0, none.fairnessOfPrograms());
        none.setRate(0, 1);
        none.run(12);
        Check.sentence("of all households that have a program");
        Check.due("one with a program", 1.0, none.fairness(1));
        RefundShaper two = Texts.of("link 9 9 0 0 0;house a 9 0;house b 9 0;house c 9 0;program p meek b 0 9 1 0 0 0;"
                + "program q meek c 0 9 0 0 0 0;off q;");
        two.run(12);
        Check.due("two with a program, one of them is off", 0.5, two.fairness(0));
        Check.due("two programs, one of them is off", 0.5, two.fairnessOfPrograms());
        Check.sentence("Returns the kept hour that was the least fair, of several the earliest one; NONE without kept hours");
        Check.due("unfairest without slots", -1, new RefundShaper().unfairest());
        two.turn(0, false);
        two.run(12);
        two.turn(0, true);
        two.run(12);
        Check.due("unfairest of 0.5 1.0 0.5", 0, two.unfairest());
        two.run(200);
        two.run(64);
        Check.due("unfairest at 300 of 0.5 from hour 2 on", 2, two.unfairest());
        Check.due("TIME", 300, two.size(7));
        Check.sentence("1.0f if it offered none");
        Check.due("served of one that is off", 1.0f, two.served(1));
        RefundShaper slotless = Texts.of(Scenes.FOUR);
        Check.due("served ahead of any slot", 1.0f, slotless.served(3));
    }

    private static void latestOfNone() {
        RefundShaper shaper = Texts.of(Scenes.FOUR);
        none(shaper, -1);
        shaper.saveSnapshot(0);
        shaper.run(1);
        none(shaper, 0);
        shaper.undo();
        none(shaper, -1);
        shaper.run(2);
        shaper.restoreSnapshot(0);
        none(shaper, -1);
        shaper.setRate(0, 11);
        none(shaper, -1);
        shaper.run(1);
        Texts.parse(shaper, Scenes.FOUR);
        none(shaper, -1);
    }

    /** Nothing is capped in the first slots of the four: 0 in a slot, NONE without one. */
    private static void none(RefundShaper shaper, int capped) {
        Check.sentence("NONE if there was no slot since the text was parsed");
        for (int what = 0; what < 6; what++) {
            Check.due("latest " + what + " is NONE", capped == -1, shaper.latest(3, what) == -1);
        }
        Check.due("latest capped", capped, shaper.latest(0, 1));
        Check.sentence("Returns whether the latest slot was warned; false if there was none");
        Check.due("isWarned", capped == 0, shaper.isWarned());
    }

    public static void main(String[] arguments) {
        sizes();
        programsOfHouseholds();
        fullTable();
        largeNumbers();
        fairnessOfFew();
        latestOfNone();
        Check.end("ToldEdgesTest");
    }
}
