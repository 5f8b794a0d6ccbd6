import java.util.NoSuchElementException;

/** Promises 12 to 18: hour, fairness, fairnessOfPrograms, unfairest, served, mostYielding, dropRow. */
final class HoursTest {
    private static final int LEAST = Integer.MIN_VALUE;
    private static final int GREATEST = Integer.MAX_VALUE;

    private HoursTest() {
    }

    /** The first program sends 1 unit more each slot, from 0 on; hc has no program. */
    private static RefundShaper growing() {
        return Texts.of("link 9999 100 0 0 0;house ha 99999 0;house hb 20 0;house hc 9 0;"
                + "program a meek ha 0 999 0 1 0 0;program b meek hb 2 2 2 0 0 0;");
    }

    private static void promise12() {
        Check.sentence("Promise 12: hour");
        RefundShaper shaper = growing();
        Check.dueThrow("hour of none", NoSuchElementException.class, () -> shaper.hour(0, 0));
        shaper.run(11);
        Check.dueThrow("hour not ended", NoSuchElementException.class, () -> shaper.hour(0, 0));
        shaper.run(1);
        Check.due("hour 0 of a", 66, shaper.hour(0, 0));
        Check.due("hour 0 of b", 20, shaper.hour(0, 1));
        Check.due("hour 0 of c", 0, shaper.hour(0, 2));
        Check.dueThrow("hour 1", NoSuchElementException.class, () -> shaper.hour(1, 0));
        shaper.run(200);
        shaper.run(76);
        Check.due("hours", 24, shaper.size(8));
        Check.due("hour 0 at the end of hour 23", 66, shaper.hour(0, 0));
        Check.due("hour 23 of a", 144 * 23 + 66, shaper.hour(23, 0));
        shaper.run(11);
        Check.due("hour 0 in hour 24", 66, shaper.hour(0, 0));
        shaper.run(1);
        Check.due("hours", 24, shaper.size(8));
        Check.dueThrow("hour 0 behind hour 24", NoSuchElementException.class, () -> shaper.hour(0, 0));
        for (int hour = 1; hour < 25; hour++) {
            Check.due("hour " + hour, 144 * hour + 66, shaper.hour(hour, 0));
            Check.due("hour " + hour, 20, shaper.hour(hour, 1));
        }
        shaper.undo();
        Check.due("hour 0 when hour 24 is undone", 66, shaper.hour(0, 0));
        Check.dueThrow("hour 24 undone", NoSuchElementException.class, () -> shaper.hour(24, 0));
    }

    private static void promise13() {
        Check.sentence("Promise 13: fairness");
        RefundShaper shaper = growing();
        shaper.run(24);
        Check.due("fairness 0", (double) (86 * 86) / (double) (2 * (66 * 66 + 400)), shaper.fairness(0));
        Check.due("fairness 1", (double) (230 * 230) / (double) (2 * (210 * 210 + 400)), shaper.fairness(1));
        Check.dueThrow("fairness of none", NoSuchElementException.class, () -> new RefundShaper().fairness(0));
        RefundShaper off = Texts.of("link 9 9 0 0 0;house a 9 0;house b 9 0;house c 9 0;"
                + "program p meek a 1 1 1 0 0 0;program q meek b 1 1 1 0 0 0;off q;");
        off.run(12);
        Check.due("fairness with one that is off", 81.0 / 162.0, off.fairness(0));
        off.turn(0, false);
        off.run(12);
        Check.due("fairness of zeros", 1.0, off.fairness(1));
        RefundShaper empty = Texts.of("link 9 9 0 0 0;house a 9 0;");
        empty.run(12);
        Check.due("fairness without programs", 1.0, empty.fairness(0));
    }

    private static void promise14() {
        Check.sentence("Promise 14: fairnessOfPrograms");
        Check.due("fairnessOfPrograms of none", 1.0, new RefundShaper().fairnessOfPrograms());
        RefundShaper shaper = Texts.of(Scenes.FOUR);
        Check.due("fairnessOfPrograms ahead", 1.0, shaper.fairnessOfPrograms());
        shaper.run(4);
        Check.due("fairnessOfPrograms", 30976.0 / 33480.0, shaper.fairnessOfPrograms());
        shaper.turn(0, false);
        Check.due("fairnessOfPrograms, one is off", 30976.0 / 33480.0, shaper.fairnessOfPrograms());
        // so many units that their square is beyond what an int holds
        RefundShaper many = Scenes.free(9999, 100, 0, "p meek h 900 900 900 0 0 0", "q meek h 100 100 100 0 0 0");
        many.run(200);
        Check.due("fairnessOfPrograms of many", 40000000000.0 / 65600000000.0, many.fairnessOfPrograms());
    }

    private static void promise15() {
        Check.sentence("Promise 15: unfairest");
        RefundShaper shaper = Texts.of("link 9999 100 0 0 0;house a 99999 0;house b 99999 0;"
                + "program p meek a 0 9 3 0 0 0;program q meek b 0 9 3 0 0 0;");
        Check.due("unfairest of none", -1, shaper.unfairest());
        shaper.run(11);
        Check.due("unfairest of an hour that has not ended", -1, shaper.unfairest());
        shaper.run(1);
        Check.due("unfairest of one", 0, shaper.unfairest());
        shaper.setRate(1, 6);
        shaper.run(12);
        Check.due("unfairest 3 6", 1, shaper.unfairest());
        shaper.setRate(0, 4);
        shaper.setRate(1, 2);
        shaper.run(12);
        Check.due("unfairest of equal ones", 1, shaper.unfairest());
        shaper.setRate(1, 9);
        shaper.run(12);
        Check.due("unfairest 4 9", 3, shaper.unfairest());
        shaper.setRate(0, 9);
        shaper.run(200);
        Check.due("time", 248, shaper.size(7));
        shaper.run(76);
        Check.due("hours up to 26", 3, shaper.unfairest());
        shaper.run(12);
        Check.due("hour 3 is not kept", 4, shaper.unfairest());
        shaper.run(12);
        Check.due("unfairest of fair ones", 5, shaper.unfairest());
    }

    private static void promise16() {
        Check.sentence("Promise 16: served");
        RefundShaper shaper = Texts.of(Scenes.FOUR);
        Check.due("served of nothing", 1.0f, shaper.served(0));
        shaper.run(4);
        Check.due("served 0", 53f / 99f, shaper.served(0));
        Check.due("served 1", 58f / 77f, shaper.served(1));
        Check.due("served 3", 26f / 31f, shaper.served(3));
        RefundShaper none = Texts.of("link 9 9 9 0 0;house h 9 0;program p meek h 7 7 7 0 0 0;");
        none.run(1);
        Check.due("served unpaid", 0.0f, none.served(0));
        RefundShaper one = Texts.of("link 9 9 9 0 0;house h 9 0;program p meek h 1 1 1 0 0 0;");
        one.run(1);
        Check.due("served one unit unpaid", 0.0f, one.served(0));
    }

    private static void promise17() {
        Check.sentence("Promise 17: mostYielding");
        RefundShaper shaper = Texts.of(Scenes.FOUR);
        Check.due("mostYielding of none", -1, new RefundShaper().mostYielding());
        Check.due("mostYielding ahead", -1, shaper.mostYielding());
        shaper.run(1);
        Check.due("mostYielding 0 9 0 1", 1, shaper.mostYielding());
        shaper.run(1);
        Check.due("mostYielding 12 15 0 1", 1, shaper.mostYielding());
        shaper.run(1);
        Check.due("mostYielding 19 19 1 3", 0, shaper.mostYielding());
        RefundShaper one = Scenes.free(9, 1, 0, "a steady h 0 9 4 0 24 0", "b steady h 0 9 4 0 25 0");
        one.run(1);
        Check.due("mostYielding 0 1", 1, one.mostYielding());
    }

    private static void promise18() {
        Check.sentence("Promise 18: dropRow");
        RefundShaper shaper = Texts.of(Scenes.FOUR);
        rowIs(shaper, 0, 1, 2, 3);
        shaper.run(1);
        rowIs(shaper, 0, 2, 1, 3);
        shaper.run(1);
        rowIs(shaper, 0, 2, 3, 1);
        for (int k : new int[] {-1, 4, 12, LEAST, GREATEST}) {
            Check.due("dropRow " + k, -1, shaper.dropRow(k));
        }
        Check.due("dropRow of none", -1, new RefundShaper().dropRow(0));
    }

    private static void rowIs(RefundShaper shaper, int... due) {
        for (int k = 0; k < due.length; k++) {
            Check.due("dropRow " + k, due[k], shaper.dropRow(k));
        }
    }

    public static void main(String[] arguments) {
        promise12();
        promise13();
        promise14();
        promise15();
        promise16();
        promise17();
        promise18();
        Check.end("HoursTest");
    }
}
