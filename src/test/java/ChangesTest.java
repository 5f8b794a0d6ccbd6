/** Promises 27 to 33, turn, setRate, setYield, setCap, topUp, setLink, setPrices, and 34 to 39. */
final class ChangesTest {
    private static final int LEAST = Integer.MIN_VALUE;
    private static final int GREATEST = Integer.MAX_VALUE;

    private ChangesTest() {
    }

    private static void promise27() {
        RefundShaper shaper = Texts.of(Scenes.FOUR + "off st;");
        Check.due("turn off", true, shaper.turn(0, false));
        Check.due("turn off again", false, shaper.turn(0, false));
        Check.due("turn on", false, shaper.turn(1, true));
        Check.due("turn on again", true, shaper.turn(1, true));
        Check.due("on", "0 1 1 1", Scenes.programs(shaper, 10));
        Check.due("undos", 4, shaper.size(9));
        for (int wrong : new int[] {-1, 4, LEAST, GREATEST}) {
            Check.dueThrow("turn " + wrong, IndexOutOfBoundsException.class, () -> shaper.turn(wrong, true));
        }
        Check.due("undos", 4, shaper.size(9));
    }

    private static void promise28() {
        RefundShaper shaper = Texts.of(Scenes.FOUR);
        Check.due("setRate to FLOOR", 30, shaper.setRate(1, 10));
        Check.due("setRate to CEILING", 10, shaper.setRate(1, 60));
        Check.due("setRate to the same", 60, shaper.setRate(1, 60));
        Check.due("rates", "40 60 20 10", Scenes.programs(shaper, 2));
        for (int wrong : new int[] {9, 61, -1, LEAST, GREATEST}) {
            Check.dueThrow("setRate " + wrong, IllegalArgumentException.class, () -> shaper.setRate(1, wrong));
        }
        for (int wrong : new int[] {-1, 4, LEAST, GREATEST}) {
            Check.dueThrow("setRate of " + wrong, IndexOutOfBoundsException.class, () -> shaper.setRate(wrong, 20));
            Check.dueThrow("setRate of " + wrong, IndexOutOfBoundsException.class, () -> shaper.setRate(wrong, -1));
        }
        Check.due("rates", "40 60 20 10", Scenes.programs(shaper, 2));
        Check.due("undos", 3, shaper.size(9));
    }

    private static void promise29() {
        RefundShaper shaper = Texts.of(Scenes.FOUR);
        Check.due("setYield 100", 30, shaper.setYield(1, 100));
        Check.due("setYield 0", 100, shaper.setYield(1, 0));
        Check.due("setYield 7", 10, shaper.setYield(3, 7));
        Check.due("yields", "0 0 0 7", Scenes.programs(shaper, 6));
        Check.due("BASE", "0 30 0 10", Scenes.programs(shaper, 8));
        for (int wrong : new int[] {-1, 101, LEAST, GREATEST}) {
            Check.dueThrow("setYield " + wrong, IllegalArgumentException.class, () -> shaper.setYield(1, wrong));
        }
        for (int wrong : new int[] {-1, 4, LEAST, GREATEST}) {
            Check.dueThrow("setYield of " + wrong, IndexOutOfBoundsException.class, () -> shaper.setYield(wrong, 1));
            Check.dueThrow("setYield of " + wrong, IndexOutOfBoundsException.class, () -> shaper.setYield(wrong, -1));
        }
        Check.due("undos", 3, shaper.size(9));
    }

    private static void promise30() {
        RefundShaper shaper = Texts.of(Scenes.FOUR);
        Check.due("setCap 1", 1000, shaper.setCap(0, 1));
        Check.due("setCap 99999", 1, shaper.setCap(0, 99999));
        Check.due("CAP", 99999, shaper.household(0, 0));
        Check.due("CAP of the other", 200, shaper.household(1, 0));
        for (int wrong : new int[] {0, -1, 100000, LEAST, GREATEST}) {
            Check.dueThrow("setCap " + wrong, IllegalArgumentException.class, () -> shaper.setCap(1, wrong));
        }
        for (int wrong : new int[] {-1, 2, LEAST, GREATEST}) {
            Check.dueThrow("setCap of " + wrong, IndexOutOfBoundsException.class, () -> shaper.setCap(wrong, 1));
            Check.dueThrow("setCap of " + wrong, IndexOutOfBoundsException.class, () -> shaper.setCap(wrong, 0));
        }
        Check.due("undos", 2, shaper.size(9));
    }

    private static void promise31() {
        RefundShaper shaper = Texts.of("link 9 9 9 9 9;house a 9 99;house b 9 0;");
        Check.due("topUp 1", 100, shaper.topUp(0, 1));
        for (int i = 1; i <= 99; i++) {
            Check.due("topUp 99999", 100 + 99999 * i, shaper.topUp(0, 99999));
        }
        Check.due("topUp to the greatest", 9999999, shaper.topUp(0, 9999999 - 100 - 99999 * 99));
        Check.dueThrow("topUp above it", IllegalStateException.class, () -> shaper.topUp(0, 1));
        Check.dueThrow("topUp above it", IllegalStateException.class, () -> shaper.topUp(0, 99999));
        Check.due("balance", 9999999, shaper.household(0, 1));
        Check.due("balance of the other", 0, shaper.household(1, 1));
        for (int wrong : new int[] {0, -1, 100000, LEAST, GREATEST}) {
            Check.dueThrow("topUp " + wrong, IllegalArgumentException.class, () -> shaper.topUp(0, wrong));
            Check.dueThrow("topUp of none", IndexOutOfBoundsException.class, () -> shaper.topUp(2, wrong));
        }
        for (int wrong : new int[] {-1, 2, LEAST, GREATEST}) {
            Check.dueThrow("topUp of " + wrong, IndexOutOfBoundsException.class, () -> shaper.topUp(wrong, 1));
        }
        Check.due("undo of a change ahead of the exceptions", 7, shaper.undo());
        Check.due("balance", 100 + 99999 * 99, shaper.household(0, 1));
    }

    private static void promise32() {
        RefundShaper shaper = new RefundShaper();
        Check.due("setLink 1 1", 100, shaper.setLink(1, 1));
        Check.due("setLink 9999 100", 1, shaper.setLink(9999, 100));
        Check.due("CAPACITY", 9999, shaper.size(2));
        Check.due("THRESHOLD", 100, shaper.size(3));
        for (int wrong : new int[] {0, -1, 10000, LEAST, GREATEST}) {
            Check.dueThrow("setLink " + wrong, IllegalArgumentException.class, () -> shaper.setLink(wrong, 50));
        }
        for (int wrong : new int[] {0, -1, 101, LEAST, GREATEST}) {
            Check.dueThrow("setLink _ " + wrong, IllegalArgumentException.class, () -> shaper.setLink(50, wrong));
        }
        Check.due("CAPACITY", 9999, shaper.size(2));
        Check.due("undos", 2, shaper.size(9));
    }

    private static void promise33() {
        RefundShaper shaper = new RefundShaper();
        Check.due("setPrices 99 99", 1, shaper.setPrices(99, 99));
        Check.due("setPrices 99 0", 99, shaper.setPrices(99, 0));
        Check.due("setPrices 0 0", 99, shaper.setPrices(0, 0));
        Check.due("setPrices 7 6", 0, shaper.setPrices(7, 6));
        Check.due("PRICE", 7, shaper.size(4));
        Check.due("REFUND", 6, shaper.size(5));
        for (int wrong : new int[] {-1, 100, LEAST, GREATEST}) {
            Check.dueThrow("setPrices " + wrong, IllegalArgumentException.class, () -> shaper.setPrices(wrong, 0));
            Check.dueThrow("setPrices " + wrong, IllegalArgumentException.class, () -> shaper.setPrices(wrong, wrong));
            Check.dueThrow("setPrices _ " + wrong, IllegalArgumentException.class, () -> shaper.setPrices(9, wrong));
        }
        Check.dueThrow("setPrices 9 10", IllegalArgumentException.class, () -> shaper.setPrices(9, 10));
        Check.due("PRICE", 7, shaper.size(4));
        Check.due("undos", 4, shaper.size(9));
    }

    private static void promises34And35() {
        RefundShaper shaper = Texts.of(Scenes.FOUR);
        Check.due("no report", -1, shaper.reportByte(0));
        Check.due("report ahead", "ma 40%0 0\nst 30%30 0\nsu 20%0 0\nco 10%10 0\n".length(), shaper.report());
        shaper.run(4);
        shaper.turn(2, false);
        Check.due("report before", "ma 40%0 0\nst 30%30 0\nsu 20%0 0\nco 10%10 0\n", Texts.report(shaper));
        String due = "ma 16%37 53\nst 15%30 58\nsu 13%7 39-\nco 6%37 26\n";
        Check.due("report", due.length(), shaper.report());
        Check.due("report", due, Texts.report(shaper));
        for (int none : new int[] {-1, due.length(), LEAST, GREATEST}) {
            Check.due("reportByte " + none, -1, shaper.reportByte(none));
        }
        shaper.undo();
        Check.due("report behind undo", due, Texts.report(shaper));
        Texts.parse(shaper, "link 9 9 9 9 9;");
        Check.due("report behind parse", due, Texts.report(shaper));
        Check.due("report of none", 0, shaper.report());
        Check.due("report of none", -1, shaper.reportByte(0));
        longReport();
    }

    private static void longReport() {
        StringBuilder text = new StringBuilder("link 9999 100 0 0 0;");
        StringBuilder due = new StringBuilder();
        for (char c = 'a'; c < 'g'; c++) {
            text.append("house ").append(c).append(" 99999 0;");
        }
        for (char c = 'a'; c < 'm'; c++) {
            char home = (char) ('a' + (c - 'a') / 2);
            text.append("program abcdefg").append(c).append(" meek ").append(home).append(" 0 999 833 0 100 50;");
            due.append("abcdefg").append(c).append(" 833%100 9163000-\n");
        }
        RefundShaper shaper = Texts.of(text.toString());
        for (int i = 0; i < 55; i++) {
            shaper.run(200);
        }
        for (int p = 0; p < 12; p++) {
            shaper.turn(p, false);
        }
        Check.due("length of a long report", due.length(), shaper.report());
        Check.due("long report", due.toString(), Texts.report(shaper));
    }

    private static void promise36() {
        RefundShaper shaper = Texts.of(Scenes.FOUR);
        long[] checksums = new long[13];
        for (int i = 0; i < 12; i++) {
            checksums[i] = shaper.checksum();
            Check.due("undos", Math.min(i, 8), shaper.size(9));
            shaper.run(1 + i * 5);
        }
        shaper.append(1, 2, 3, 4, 5);
        shaper.report();
        String report = Texts.report(shaper);
        for (int left = 7; left >= 0; left--) {
            Check.due("undo", left, shaper.undo());
            Check.due("checksum behind undo", checksums[left + 4], shaper.checksum());
        }
        Check.due("undo of none", -1, shaper.undo());
        Check.due("checksum", checksums[4], shaper.checksum());
        Check.due("buffer stays", 20, shaper.size(10));
        Check.due("report stays", report, Texts.report(shaper));
        shaper.run(1);
        shaper.run(2);
        Check.due("undo", 1, shaper.undo());
        shaper.run(3);
        Check.due("undo", 1, shaper.undo());
        Check.due("undo", 0, shaper.undo());
        Check.due("undo of none", -1, shaper.undo());
        Check.due("checksum", checksums[4], shaper.checksum());
        eachChangeIsUndone();
    }

    private static void eachChangeIsUndone() {
        RefundShaper shaper = Texts.of(Scenes.FOUR);
        shaper.run(2);
        shaper.saveSnapshot(0);
        String latest = Scenes.latest(shaper, 5);
        Check.Call[] changes = {() -> shaper.run(30), () -> shaper.turn(0, false), () -> shaper.setRate(0, 33),
            () -> shaper.setYield(0, 44), () -> shaper.setCap(0, 55), () -> shaper.topUp(0, 66),
            () -> shaper.setLink(7, 8), () -> shaper.setPrices(9, 8)};
        long checksum = shaper.checksum();
        for (Check.Call change : changes) {
            change.make();
            Check.due("undos", 2, shaper.size(9));
            Check.due("undo of one", 1, shaper.undo());
            Check.due("checksum", checksum, shaper.checksum());
            Check.due("latest", latest, Scenes.latest(shaper, 5));
            Check.due("warned", true, shaper.isWarned());
            Check.due("on", "1 1 1 1", Scenes.programs(shaper, 10));
            Check.due("hours", 0, shaper.size(8));
        }
        for (Check.Call change : changes) {
            change.make();
        }
        Check.due("undos of all", 8, shaper.size(9));
        shaper.report();
        shaper.saveSnapshot(1);
        shaper.append(0, 0, 0, 0, 0);
        shaper.dropsIn(9);
        Check.due("calls that are no changes", 8, shaper.size(9));
        for (int left = 7; left >= 0; left--) {
            Check.due("undo of all", left, shaper.undo());
        }
        Check.due("checksum", checksum, shaper.checksum());
        Check.due("snapshots stay", true, shaper.saveSnapshot(1));
        // changes that alter nothing are changes, too
        shaper.turn(0, true);
        shaper.setLink(50, 100);
        Check.due("undos", 2, shaper.size(9));
    }

    private static void promises37And38() {
        RefundShaper shaper = Texts.of(Scenes.FOUR);
        Check.dueThrow("restore nothing", IllegalStateException.class, () -> shaper.restoreSnapshot(0));
        Check.dueThrow("restore nothing", IllegalStateException.class, () -> shaper.restoreSnapshot(1));
        Check.due("save 0", false, shaper.saveSnapshot(0));
        Check.dueThrow("restore nothing", IllegalStateException.class, () -> shaper.restoreSnapshot(1));
        shaper.run(3);
        long third = shaper.checksum();
        Check.due("save 1", false, shaper.saveSnapshot(1));
        shaper.run(20);
        shaper.append(1, 2, 3, 4, 5);
        shaper.report();
        String report = Texts.report(shaper);
        Check.due("restore 1", 3, shaper.restoreSnapshot(1));
        Check.due("checksum of 1", third, shaper.checksum());
        Check.due("undos", 0, shaper.size(9));
        Check.due("undo", -1, shaper.undo());
        Check.due("buffer stays", 20, shaper.size(10));
        Check.due("report stays", report, Texts.report(shaper));
        Check.due("latest", "18 15 12 7", Scenes.latest(shaper, 0));
        Check.due("restore 0", 0, shaper.restoreSnapshot(0));
        Check.due("checksum of 0", Texts.of(Scenes.FOUR).checksum(), shaper.checksum());
        Check.due("latest", -1, shaper.latest(0, 0));
        shaper.run(1);
        Check.due("restore 1 again", 3, shaper.restoreSnapshot(1));
        Check.due("checksum of 1", third, shaper.checksum());
        shaper.run(1);
        long fourth = shaper.checksum();
        Check.due("save 1 again", true, shaper.saveSnapshot(1));
        Check.due("save is no change", 1, shaper.size(9));
        shaper.undo();
        Check.due("restore 1, the later one", 4, shaper.restoreSnapshot(1));
        Check.due("checksum of 1", fourth, shaper.checksum());
        for (int wrong : new int[] {-1, 2, LEAST, GREATEST}) {
            Check.dueThrow("save " + wrong, IllegalArgumentException.class, () -> shaper.saveSnapshot(wrong));
            Check.dueThrow("restore " + wrong, IllegalArgumentException.class, () -> shaper.restoreSnapshot(wrong));
        }
    }

    private static void promise39() {
        long[] fresh = {100, 80, 1, 1, 1, 0, 0, 0, 0};
        Check.due("checksum of a new one", sumOf(fresh), new RefundShaper().checksum());
        RefundShaper shaper = Texts.of("link 50 100 2 1 3;house ha 1000 5000;house hb 200 600;"
                + "program ma meek ha 10 40 40 5 0 20;program su stubborn hb 5 50 20 2 0 10;");
        shaper.run(1);
        // 60 are sent, the excess is 10: 6 and 3, one more of the first
        long[] due = {50, 100, 2, 1, 3, 1, 0, 1, 1, 1000, 4920, 40, 33, 200, 560, 20, 17,
            30, 40, 1, 40, 0, 0, 0, 7, 33, 80, 0, 15, 0, 1, 20, 0, 0, 0, 3, 17, 40, 0};
        Check.due("checksum", sumOf(due), shaper.checksum());
        RefundShaper hours = Texts.of("link 50 100 0 0 3;house h 9 0;");
        hours.run(200);
        hours.run(200);
        Check.due("checksum", sumOf(50, 100, 0, 0, 3, 400, 24, 0, 0, 9, 0, 0, 0), hours.checksum());
    }

    private static long sumOf(long... numbers) {
        long sum = 0;
        for (long number : numbers) {
            sum = 31 * sum + number;
        }
        return sum;
    }

    public static void main(String[] arguments) {
        promise27();
        promise28();
        promise29();
        promise30();
        promise31();
        promise32();
        promise33();
        promises34And35();
        promise36();
        promises37And38();
        promise39();
        Check.end("ChangesTest");
    }
}
