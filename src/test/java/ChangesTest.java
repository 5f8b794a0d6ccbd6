/** Promises 27 to 33, turn, setRate, setYield, setCap, topUp, setLink, setPrices, and 34 to 39. */
final class ChangesTest {
    private static final int LEAST = Integer.MIN_VALUE;
    private static final int GREATEST = Integer.MAX_VALUE;

    private ChangesTest() {
    }

    private static void promise27() {
        Check.sentence("Promise 27: turn");
        RefundShaper shaper = Texts.of(Scenes.FOUR + "off st;");
        Check.due("turn off", true, shaper.turn(0, false));
        Check.due("turn off again", false, shaper.turn(0, false));
        Check.due("turn on", false, shaper.turn(1, true));
        Check.due("turn on again", true, shaper.turn(1, true));
        Check.due("on", "0 1 1 1", Scenes.programs(shaper, 10));
        Check.due("undos", 4, shaper.size(9));
        Check.due("undos", 4, shaper.size(9));
    }

    private static void promise28() {
        Check.sentence("Promise 28: setRate");
        RefundShaper shaper = Texts.of(Scenes.FOUR);
        Check.due("setRate to FLOOR", 30, shaper.setRate(1, 10));
        Check.due("setRate to CEILING", 10, shaper.setRate(1, 60));
        Check.due("setRate to the same", 60, shaper.setRate(1, 60));
        Check.due("rates", "40 60 20 10", Scenes.programs(shaper, 2));
        Check.due("rates", "40 60 20 10", Scenes.programs(shaper, 2));
        Check.due("undos", 3, shaper.size(9));
    }

    private static void promise29() {
        Check.sentence("Promise 29: setYield");
        RefundShaper shaper = Texts.of(Scenes.FOUR);
        Check.due("setYield 100", 30, shaper.setYield(1, 100));
        Check.due("setYield 0", 100, shaper.setYield(1, 0));
        Check.due("setYield 7", 10, shaper.setYield(3, 7));
        Check.due("yields", "0 0 0 7", Scenes.programs(shaper, 6));
        Check.due("BASE", "0 30 0 10", Scenes.programs(shaper, 8));
        Check.due("undos", 3, shaper.size(9));
    }

    private static void promise30() {
        Check.sentence("Promise 30: setCap");
        RefundShaper shaper = Texts.of(Scenes.FOUR);
        Check.due("setCap 1", 1000, shaper.setCap(0, 1));
        Check.due("setCap 99999", 1, shaper.setCap(0, 99999));
        Check.due("CAP", 99999, shaper.household(0, 0));
        Check.due("CAP of the other", 200, shaper.household(1, 0));
        Check.due("undos", 2, shaper.size(9));
    }

    private static void promise31() {
        Check.sentence("Promise 31: topUp");
        RefundShaper shaper = Texts.of("link 9 9 9 9 9;house a 9 99;house b 9 0;");
        Check.due("topUp 1", 100, shaper.topUp(0, 1));
        for (int i = 1; i <= 99; i++) {
            Check.due("topUp 99999", 100 + 99999 * i, shaper.topUp(0, 99999));
        }
        Check.due("topUp to the greatest", 9999999, shaper.topUp(0, 9999999 - 100 - 99999 * 99));
        Check.dueThrow("topUp above it", IllegalStateException.class, () -> shaper.topUp(0, 1));
        Check.dueThrow("topUp above it", IllegalStateException.class, () -> shaper.topUp(0, 99999));
        Check.due("balance", 9999999, shaper.household(0, 1));
        Check.due("balance of the other", 0, shaper.household(1, 1));
        Check.due("undo of a change ahead of the exceptions", 7, shaper.undo());
        Check.due("balance", 100 + 99999 * 99, shaper.household(0, 1));
    }

    private static void promise32() {
        Check.sentence("Promise 32: setLink");
        RefundShaper shaper = new RefundShaper();
        Check.due("setLink 1 1", 100, shaper.setLink(1, 1));
        Check.due("setLink 9999 100", 1, shaper.setLink(9999, 100));
        Check.due("CAPACITY", 9999, shaper.size(2));
        Check.due("THRESHOLD", 100, shaper.size(3));
        Check.due("CAPACITY", 9999, shaper.size(2));
        Check.due("undos", 2, shaper.size(9));
    }

    private static void promise33() {
        Check.sentence("Promise 33: setPrices");
        RefundShaper shaper = new RefundShaper();
        Check.due("setPrices 99 99", 1, shaper.setPrices(99, 99));
        Check.due("setPrices 99 0", 99, shaper.setPrices(99, 0));
        Check.due("setPrices 0 0", 99, shaper.setPrices(0, 0));
        Check.due("setPrices 7 6", 0, shaper.setPrices(7, 6));
        Check.due("PRICE", 7, shaper.size(4));
        Check.due("REFUND", 6, shaper.size(5));
        Check.dueThrow("setPrices 9 10", IllegalArgumentException.class, () -> shaper.setPrices(9, 10));
        Check.due("PRICE", 7, shaper.size(4));
        Check.due("undos", 4, shaper.size(9));
    }

    private static void promises34And35() {
        Check.sentence("Promise 34: report");
        RefundShaper shaper = Texts.of(Scenes.FOUR);
        Check.due("no report", -1, shaper.reportByte(0));
        Check.due("report ahead", "ma 40%0 0\nst 30%30 0\nsu 20%0 0\nco 10%10 0\n".length(), shaper.report());
        shaper.run(4);
        shaper.turn(2, false);
        Check.due("report before", "ma 40%0 0\nst 30%30 0\nsu 20%0 0\nco 10%10 0\n", Texts.report(shaper));
        String due = "ma 16%37 53\nst 15%30 58\nsu 13%7 39-\nco 6%37 26\n";
        Check.due("report", due.length(), shaper.report());
        Check.due("report", due, Texts.report(shaper));
        for (int none : new int[] {-1, due.length(), LEAST, GREATEST}) {
            Check.due("reportByte " + none, -1, shaper.reportByte(none));
        }
        shaper.undo();
        Check.due("report behind undo", due, Texts.report(shaper));
        Texts.parse(shaper, "link 9 9 9 9 9;");
        Check.due("report behind parse", due, Texts.report(shaper));
        Check.due("report of none", 0, shaper.report());
        Check.due("report of none", -1, shaper.reportByte(0));
        Check.sentence("Writes a report, in place of the one before");
        RefundShaper shorter = Texts.of(Scenes.FOUR);
        shorter.report();
        Texts.parse(shorter, "link 9 9 9 9 9;house h 9 9;program p meek h 0 9 5 0 7 0;");
        Check.due("a shorter report", 8, shorter.report());
        Check.due("a shorter report", "p 5%7 0\n", Texts.report(shorter));
        Check.sentence("Returns a byte of the latest report; NONE if there is none such");
        Check.due("its first byte", 'p', shorter.reportByte(0));
        Check.due("its last byte", 10, shorter.reportByte(7));
        for (int none : new int[] {-1, 8, 9, 46, 500, LEAST, GREATEST}) {
            Check.due("reportByte " + none, -1, shorter.reportByte(none));
        }
        numbersOfReports();
        longReport();
    }

    private static void numbersOfReports() {
        Check.sentence("its rate, a percent sign (byte 37), its yield, a space and the units of it that were delivered");
        RefundShaper shaper = Scenes.free(9999, 100, 0, "a meek h 0 999 0 0 0 0", "b meek h 0 999 9 0 9 0",
                "c meek h 0 999 10 0 10 0", "d meek h 0 999 99 0 99 0", "e meek h 0 999 100 0 100 0",
                "abcdefgh meek h 0 999 999 0 1 0");
        shaper.run(1);
        shaper.turn(2, false);
        shaper.report();
        Check.due("report", "a 0%0 0\nb 9%9 9\nc 10%10 10-\nd 99%99 99\ne 100%100 100\nabcdefgh 999%1 999\n",
                Texts.report(shaper));
        shaper.run(199);
        shaper.report();
        Check.due("report", "a 0%0 0\nb 9%9 1800\nc 10%10 10-\nd 99%99 19800\ne 100%100 20000\n"
                + "abcdefgh 999%1 199800\n", Texts.report(shaper));
    }

    private static void longReport() {
        StringBuilder text = new StringBuilder("link 9999 100 0 0 0;");
        StringBuilder due = new StringBuilder();
        for (char c = 'a'; c < 'g'; c++) {
            text.append("house ").append(c).append(" 99999 0;");
        }
        for (char c = 'a'; c < 'm'; c++) {
            char home = (char) ('a' + (c - 'a') / 2);
            text.append("program abcdefg").append(c).append(" meek ").append(home).append(" 0 999 833 0 100 50;");
            due.append("abcdefg").append(c).append(" 833%100 9163000-\n");
        }
        RefundShaper shaper = Texts.of(text.toString());
        for (int i = 0; i < 55; i++) {
            shaper.run(200);
        }
        for (int p = 0; p < 12; p++) {
            shaper.turn(p, false);
        }
        Check.due("length of a long report", due.length(), shaper.report());
        Check.due("long report", due.toString(), Texts.report(shaper));
    }

    private static void promise36() {
        Check.sentence("Promise 36: undo");
        RefundShaper shaper = Texts.of(Scenes.FOUR);
        long[] checksums = new long[13];
        for (int i = 0; i < 12; i++) {
            checksums[i] = shaper.checksum();
            Check.due("undos", Math.min(i, 8), shaper.size(9));
            shaper.run(1 + i * 5);
        }
        shaper.append(1, 2, 3, 4, 5);
        shaper.report();
        String report = Texts.report(shaper);
        for (int left = 7; left >= 0; left--) {
            Check.due("undo", left, shaper.undo());
            Check.due("checksum behind undo", checksums[left + 4], shaper.checksum());
        }
        Check.due("undo of none", -1, shaper.undo());
        Check.due("checksum", checksums[4], shaper.checksum());
        Check.due("buffer stays", 20, shaper.size(10));
        Check.due("report stays", report, Texts.report(shaper));
        shaper.run(1);
        shaper.run(2);
        Check.due("undo", 1, shaper.undo());
        shaper.run(3);
        Check.due("undo", 1, shaper.undo());
        Check.due("undo", 0, shaper.undo());
        Check.due("undo of none", -1, shaper.undo());
        Check.due("checksum", checksums[4], shaper.checksum());
    }

    private static void eachIsAChange() {
        Check.sentence("Each call of a method below \"changes\" that throws no exception is a change");
        RefundShaper shaper = Texts.of(Scenes.FOUR);
        long checksum = shaper.checksum();
        Check.Call[] changes = {() -> shaper.run(30), () -> shaper.turn(0, false), () -> shaper.setRate(0, 33),
            () -> shaper.setYield(0, 44), () -> shaper.setCap(0, 55), () -> shaper.topUp(0, 66),
            () -> shaper.setLink(7, 8), () -> shaper.setPrices(9, 8)};
        for (int i = 0; i < changes.length; i++) {
            changes[i].make();
            Check.due("changes", i + 1, shaper.size(9));
            shaper.report();
            shaper.reportByte(0);
            shaper.saveSnapshot(i % 2);
            shaper.append(0, 0, 0, 0, 0);
            shaper.dropsIn(9);
            Check.due("changes behind calls that are none", i + 1, shaper.size(9));
        }
        for (int left = changes.length - 1; left >= 0; left--) {
            Check.due("undo of all", left, shaper.undo());
        }
        Check.due("checksum", checksum, shaper.checksum());
    }

    private static void alteringNothing() {
        Check.sentence("is a change, also if it alters nothing");
        RefundShaper shaper = Texts.of("link 9 8 7 6 5;house h 99 88;program p meek h 5 5 5 0 40 0;");
        Check.Call[] changes = {() -> shaper.turn(0, true), () -> shaper.setRate(0, 5), () -> shaper.setYield(0, 40),
            () -> shaper.setCap(0, 99), () -> shaper.setLink(9, 8), () -> shaper.setPrices(7, 6)};
        for (int i = 0; i < changes.length; i++) {
            changes[i].make();
            Check.due("changes", i + 1, shaper.size(9));
        }
        for (int left = changes.length - 1; left >= 0; left--) {
            Check.due("undo", left, shaper.undo());
        }
        Check.due("undo of none", -1, shaper.undo());
        Check.due("checksum", Texts.of("link 9 8 7 6 5;house h 99 88;program p meek h 5 5 5 0 40 0;").checksum(),
                shaper.checksum());
    }

    private static void eightChanges() {
        Check.sentence("The latest 8 changes can be undone, the latest first");
        RefundShaper shaper = Scenes.free(9, 9, 9, "p meek h 0 999 0 0 0 0");
        for (int rate = 1; rate <= 20; rate++) {
            Check.due("setRate", rate - 1, shaper.setRate(0, rate));
            Check.due("changes", Math.min(rate, 8), shaper.size(9));
        }
        for (int left = 7; left >= 0; left--) {
            Check.due("undo", left, shaper.undo());
            Check.due("rate", 12 + left, shaper.program(0, 2));
            Check.due("changes", left, shaper.size(9));
        }
        Check.sentence("NONE if there was none to undo");
        Check.due("undo of none", -1, shaper.undo());
        Check.due("rate", 12, shaper.program(0, 2));
        Check.due("changes", 0, shaper.size(9));
        Check.sentence("Undoes the latest change that has not been undone");
        for (int round = 1; round <= 20; round++) {
            shaper.setRate(0, 100 + round);
            shaper.setRate(0, 300 + round);
            Check.due("undo", Math.min(round + 1, 8) - 1, shaper.undo());
            Check.due("rate", 100 + round, shaper.program(0, 2));
        }
        for (int left = 6; left >= 0; left--) {
            Check.due("undo", left, shaper.undo());
            Check.due("rate", 113 + left, shaper.program(0, 2));
        }
        Check.due("undo of none", -1, shaper.undo());
    }

    private interface Change {
        Object on(RefundShaper shaper);
    }

    /** All 24 hours are kept, and two changes can be undone. */
    private static RefundShaper later() {
        RefundShaper shaper = Texts.of(Scenes.FOUR);
        shaper.run(200);
        shaper.run(101);
        return shaper;
    }

    private static void everythingIsHeld() {
        Change[] changes = {shaper -> shaper.run(1), shaper -> shaper.run(200), shaper -> shaper.turn(0, false),
            shaper -> shaper.setRate(1, 44), shaper -> shaper.setYield(2, 99), shaper -> shaper.setCap(0, 3),
            shaper -> shaper.topUp(1, 7), shaper -> shaper.setLink(3, 4), shaper -> shaper.setPrices(99, 88)};
        String undone = Whole.of(later());
        RefundShaper first = later();
        first.saveSnapshot(0);
        first.restoreSnapshot(0);
        String restored = Whole.of(first);
        for (int i = 0; i < changes.length; i++) {
            Check.sentence("Snapshots and undo hold everything but the buffer, the report and the snapshots");
            RefundShaper shaper = later();
            changes[i].on(shaper);
            Check.due("undo of change " + i, 2, shaper.undo());
            Check.alike("all behind undo of change " + i, undone, Whole.of(shaper));
            shaper = later();
            shaper.saveSnapshot(i % 2);
            changes[i].on(shaper);
            shaper.saveSnapshot(1 - i % 2);
            Check.due("restoreSnapshot ahead of change " + i, 301, shaper.restoreSnapshot(i % 2));
            Check.alike("all behind restoreSnapshot ahead of change " + i, restored, Whole.of(shaper));
            Check.sentence("Restores the snapshot of a slot, which stays stored. Nothing can be undone then");
            changes[i].on(shaper);
            Check.due("changes", 1, shaper.size(9));
            shaper.restoreSnapshot(i % 2);
            Check.due("changes", 0, shaper.size(9));
            Check.due("undo", -1, shaper.undo());
            Check.due("checksum behind restoreSnapshot again", first.checksum(), shaper.checksum());
        }
        RefundShaper all = later();
        for (Change change : changes) {
            change.on(all);
        }
        for (int left = 7; left >= 0; left--) {
            Check.due("undo of all", left, all.undo());
        }
        RefundShaper one = later();
        one.run(1);
        Check.due("checksum behind undo of all but the first", one.checksum(), all.checksum());
        snapshotsStay();
    }

    private static void snapshotsStay() {
        Check.sentence("(these stay, whatever is undone)");
        RefundShaper shaper = later();
        shaper.saveSnapshot(0);
        shaper.run(7);
        shaper.saveSnapshot(1);
        shaper.saveSnapshot(0);
        shaper.run(8);
        shaper.undo();
        shaper.undo();
        shaper.undo();
        Check.due("TIME", 200, shaper.size(7));
        Check.due("an earlier snapshot 0", true, shaper.saveSnapshot(0));
        Check.due("snapshot 1", 308, shaper.restoreSnapshot(1));
        Check.due("snapshot 0", 200, shaper.restoreSnapshot(0));
        Check.due("snapshot 1", 308, shaper.restoreSnapshot(1));
        Check.due("changes", 0, shaper.size(9));
    }

    private static void promises37And38() {
        Check.sentence("Promise 37: saveSnapshot");
        RefundShaper shaper = Texts.of(Scenes.FOUR);
        Check.dueThrow("restore nothing", IllegalStateException.class, () -> shaper.restoreSnapshot(0));
        Check.dueThrow("restore nothing", IllegalStateException.class, () -> shaper.restoreSnapshot(1));
        Check.due("save 0", false, shaper.saveSnapshot(0));
        Check.dueThrow("restore nothing", IllegalStateException.class, () -> shaper.restoreSnapshot(1));
        shaper.run(3);
        long third = shaper.checksum();
        Check.due("save 1", false, shaper.saveSnapshot(1));
        shaper.run(20);
        shaper.append(1, 2, 3, 4, 5);
        shaper.report();
        String report = Texts.report(shaper);
        Check.due("restore 1", 3, shaper.restoreSnapshot(1));
        Check.due("checksum of 1", third, shaper.checksum());
        Check.due("undos", 0, shaper.size(9));
        Check.due("undo", -1, shaper.undo());
        Check.due("buffer stays", 20, shaper.size(10));
        Check.due("report stays", report, Texts.report(shaper));
        Check.due("latest", "18 15 12 7", Scenes.latest(shaper, 0));
        Check.due("restore 0", 0, shaper.restoreSnapshot(0));
        Check.due("checksum of 0", Texts.of(Scenes.FOUR).checksum(), shaper.checksum());
        Check.due("latest", -1, shaper.latest(0, 0));
        shaper.run(1);
        Check.due("restore 1 again", 3, shaper.restoreSnapshot(1));
        Check.due("checksum of 1", third, shaper.checksum());
        shaper.run(1);
        long fourth = shaper.checksum();
        Check.due("save 1 again", true, shaper.saveSnapshot(1));
        Check.due("save is no change", 1, shaper.size(9));
        shaper.undo();
        Check.due("restore 1, the later one", 4, shaper.restoreSnapshot(1));
        Check.due("checksum of 1", fourth, shaper.checksum());
    }

    private static void promise39() {
        Check.sentence("Promise 39: checksum");
        long[] fresh = {100, 80, 1, 1, 1, 0, 0, 0, 0};
        Check.due("checksum of a new one", sumOf(fresh), new RefundShaper().checksum());
        RefundShaper shaper = Texts.of("link 50 100 2 1 3;house ha 1000 5000;house hb 200 600;"
                + "program ma meek ha 10 40 40 5 0 20;program su stubborn hb 5 50 20 2 0 10;");
        shaper.run(1);
        // 60 are sent, the excess is 10: 6 and 3, one more of the first
        long[] due = {50, 100, 2, 1, 3, 1, 0, 1, 1, 1000, 4920, 40, 33, 200, 560, 20, 17,
            30, 40, 1, 40, 0, 0, 0, 7, 33, 80, 0, 15, 0, 1, 20, 0, 0, 0, 3, 17, 40, 0};
        Check.due("checksum", sumOf(due), shaper.checksum());
        RefundShaper missed = Texts.of("link 5 50 0 0 0;house h 99 0;program p steady h 5 5 5 0 0 0;");
        missed.run(1);
        missed.setLink(4, 50);
        missed.run(3);
        Check.due("checksum with 4 warned slots, 3 with drops", sumOf(4, 50, 0, 0, 0, 4, 0, 4, 3, 99, 0, 20, 17,
                5, 0, 3, 20, 0, 0, 0, 3, 17, 0, 0), missed.checksum());
        RefundShaper hours = Texts.of("link 50 100 0 0 3;house h 9 0;");
        hours.run(200);
        hours.run(200);
        Check.due("checksum", sumOf(50, 100, 0, 0, 3, 400, 24, 0, 0, 9, 0, 0, 0), hours.checksum());
    }

    private static long sumOf(long... numbers) {
        long sum = 0;
        for (long number : numbers) {
            sum = 31 * sum + number;
        }
        return sum;
    }

    public static void main(String[] arguments) {
        promise27();
        promise28();
        promise29();
        promise30();
        promise31();
        promise32();
        promise33();
        promises34And35();
        promise36();
        eachIsAChange();
        alteringNothing();
        eightChanges();
        everythingIsHeld();
        promises37And38();
        promise39();
        Check.end("ChangesTest");
    }
}
