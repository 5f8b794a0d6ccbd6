import java.util.NoSuchElementException;

/** The ends of each range, and the calls that change nothing: those that are refused, and those that only tell. */
final class NothingChangesTest {
    private static final int LEAST = Integer.MIN_VALUE;
    private static final int GREATEST = Integer.MAX_VALUE;
    private static final Class<IllegalArgumentException> ARGUMENT = IllegalArgumentException.class;
    private static final Class<IndexOutOfBoundsException> INDEX = IndexOutOfBoundsException.class;
    private static final Class<IllegalStateException> STATE = IllegalStateException.class;
    private static final Class<NoSuchElementException> ELEMENT = NoSuchElementException.class;
    /** 60 bytes that wait in the buffer. */
    private static final String NEXT = "link 7 6 5 4 3;house n 8 9;program m copying n 1 7 5 6 4 2; ";
    private static final String UNTOUCHED = trace(shaper -> 0);

    private NothingChangesTest() {
    }

    private interface Made {
        Object on(RefundShaper shaper);
    }

    private interface MadeWith {
        Object on(RefundShaper shaper, int number);
    }

    /** Two households and four programs, one kept hour, a report, snapshot 0, three changes, and a text in the buffer. */
    private static RefundShaper busy() {
        RefundShaper shaper = Texts.of(Scenes.FOUR);
        shaper.run(13);
        shaper.report();
        shaper.saveSnapshot(0);
        shaper.setYield(2, 7);
        shaper.turn(3, false);
        Texts.append(shaper, NEXT);
        return shaper;
    }

    private static RefundShaper behind(Made made) {
        RefundShaper shaper = busy();
        Check.answerOf(() -> made.on(shaper));
        return shaper;
    }

    /** All that can be seen behind the call, also by the calls that change something. */
    private static String trace(Made made) {
        StringBuilder seen = new StringBuilder(Whole.of(behind(made)));
        RefundShaper reported = behind(made);
        seen.append("\nreport ").append(Texts.report(reported));
        seen.append("\nappended ").append(reported.append(0, 0, 0, 0, 0));
        seen.append("\nparsed ").append(reported.parse(60)).append(' ').append(Whole.of(reported));
        RefundShaper undone = behind(made);
        for (int i = 0; i < 10; i++) {
            seen.append("\nundone ").append(undone.undo()).append(' ').append(undone.checksum()).append(' ')
                    .append(Scenes.latest(undone, 5)).append(' ').append(Scenes.programs(undone, 10));
        }
        RefundShaper restored = behind(made);
        seen.append("\nrestored ").append(restored.restoreSnapshot(0)).append(' ').append(Whole.of(restored));
        seen.append("\nsaved ").append(restored.saveSnapshot(0)).append(restored.saveSnapshot(1));
        return seen.toString();
    }

    private static void unchanged(String call, Made made) {
        Check.alike("all that is seen behind " + call, UNTOUCHED, trace(made));
    }

    private static void refused(String call, Class<? extends RuntimeException> due, Made made) {
        RefundShaper shaper = busy();
        Check.dueThrow(call, due, () -> made.on(shaper));
        unchanged(call, made);
    }

    private static void refusedWith(String call, Class<? extends RuntimeException> due, MadeWith made, int... wrong) {
        for (int number : wrong) {
            refused(call + " with " + number, due, shaper -> made.on(shaper, number));
        }
        refused(call + " with the least int", due, shaper -> made.on(shaper, LEAST));
        refused(call + " with the greatest int", due, shaper -> made.on(shaper, GREATEST));
    }

    /** Both ends of a range are taken, what lies beyond them is refused. */
    private static void range(String call, Class<? extends RuntimeException> due, MadeWith made, int least, int most) {
        for (int end : new int[] {least, most}) {
            RefundShaper shaper = busy();
            Check.due(call + " with " + end, "taken",
                    Check.answerOf(() -> made.on(shaper, end)).startsWith("throws") ? "refused" : "taken");
        }
        refusedWith(call, due, made, least - 1, most + 1);
    }

    private static void told() {
        Check.sentence("bytes: 0 to the length of the buffer");
        range("parse", ARGUMENT, RefundShaper::parse, 0, 60);
        Check.sentence("IllegalArgumentException if what is out of range");
        range("size", ARGUMENT, RefundShaper::size, 0, 12);
        range("total", ARGUMENT, RefundShaper::total, 0, 7);
        range("household what", ARGUMENT, (shaper, n) -> shaper.household(1, n), 0, 5);
        range("program what", ARGUMENT, (shaper, n) -> shaper.program(3, n), 0, 10);
        range("counted what", ARGUMENT, (shaper, n) -> shaper.counted(3, n), 0, 7);
        range("latest what", ARGUMENT, (shaper, n) -> shaper.latest(3, n), 0, 5);
        Check.sentence("NoSuchElementException if the hour is not kept");
        range("hour", ELEMENT, (shaper, n) -> shaper.hour(n, 1), 0, 0);
        range("fairness", ELEMENT, RefundShaper::fairness, 0, 0);
        refusedWith("hour", ELEMENT, (shaper, n) -> shaper.hour(n, 1), -24, 24);
        refusedWith("fairness", ELEMENT, RefundShaper::fairness, -24, 24);
    }

    private static void slots() {
        Check.sentence("slots: 0 to 200");
        range("dropsIn", ARGUMENT, RefundShaper::dropsIn, 0, 200);
        range("deliveredIn slots", ARGUMENT, (shaper, n) -> shaper.deliveredIn(3, n), 0, 200);
        Check.sentence("slots: 1 to 30");
        range("bestThreshold", ARGUMENT, RefundShaper::bestThreshold, 1, 30);
        Check.sentence("slots: 1 to 10");
        range("neededCapacity", ARGUMENT, RefundShaper::neededCapacity, 1, 10);
        Check.sentence("slots: 1 to 50");
        range("culprit", ARGUMENT, RefundShaper::culprit, 1, 50);
        Check.sentence("slots: 1 to 200");
        range("run", ARGUMENT, RefundShaper::run, 1, 200);
    }

    private static void noHousehold() {
        Check.sentence("A household or program that does not exist causes an IndexOutOfBoundsException");
        refusedWith("household", INDEX, (shaper, n) -> shaper.household(n, 0), -1, 2, 6);
        refusedWith("letter of a household", INDEX, (shaper, n) -> shaper.letter(true, n, 0), -1, 2, 6);
        refusedWith("hour of a household", INDEX, (shaper, n) -> shaper.hour(0, n), -1, 2, 6);
        refusedWith("setCap of a household", INDEX, (shaper, n) -> shaper.setCap(n, 5), -1, 2, 6);
        refusedWith("topUp of a household", INDEX, (shaper, n) -> shaper.topUp(n, 5), -1, 2, 6);
        Check.sentence("if several exceptions apply, the one listed first is thrown");
        refusedWith("household that is none, what -1", INDEX, (shaper, n) -> shaper.household(n, -1), -1, 2);
        refusedWith("household that is none, what 6", INDEX, (shaper, n) -> shaper.household(n, 6), -1, 2);
        refusedWith("letter -1", INDEX, (shaper, n) -> shaper.letter(true, n, -1), -1, 2);
        refusedWith("hour -1", INDEX, (shaper, n) -> shaper.hour(-1, n), -1, 2);
        refusedWith("hour 1", INDEX, (shaper, n) -> shaper.hour(1, n), -1, 2);
        refusedWith("setCap 0", INDEX, (shaper, n) -> shaper.setCap(n, 0), -1, 2);
        refusedWith("topUp 0", INDEX, (shaper, n) -> shaper.topUp(n, 0), -1, 2);
    }

    private static void noProgram() {
        Check.sentence("A household or program that does not exist causes an IndexOutOfBoundsException");
        refusedWith("program", INDEX, (shaper, n) -> shaper.program(n, 0), -1, 4, 12);
        refusedWith("letter of a program", INDEX, (shaper, n) -> shaper.letter(false, n, 0), -1, 4, 12);
        refusedWith("counted", INDEX, (shaper, n) -> shaper.counted(n, 0), -1, 4, 12);
        refusedWith("latest", INDEX, (shaper, n) -> shaper.latest(n, 0), -1, 4, 12);
        refusedWith("served", INDEX, RefundShaper::served, -1, 4, 12);
        refusedWith("deliveredIn", INDEX, (shaper, n) -> shaper.deliveredIn(n, 5), -1, 4, 12);
        refusedWith("turn on", INDEX, (shaper, n) -> shaper.turn(n, true), -1, 4, 12);
        refusedWith("turn off", INDEX, (shaper, n) -> shaper.turn(n, false), -1, 4, 12);
        refusedWith("setRate", INDEX, (shaper, n) -> shaper.setRate(n, 20), -1, 4, 12);
        refusedWith("setYield", INDEX, (shaper, n) -> shaper.setYield(n, 20), -1, 4, 12);
        Check.sentence("if several exceptions apply, the one listed first is thrown");
        refusedWith("program that is none, what 11", INDEX, (shaper, n) -> shaper.program(n, 11), -1, 4);
        refusedWith("counted 8", INDEX, (shaper, n) -> shaper.counted(n, 8), -1, 4);
        refusedWith("latest 6", INDEX, (shaper, n) -> shaper.latest(n, 6), -1, 4);
        refusedWith("deliveredIn 201", INDEX, (shaper, n) -> shaper.deliveredIn(n, 201), -1, 4);
        refusedWith("setRate -1", INDEX, (shaper, n) -> shaper.setRate(n, -1), -1, 4);
        refusedWith("setYield 101", INDEX, (shaper, n) -> shaper.setYield(n, 101), -1, 4);
    }

    private static void changes() {
        Check.sentence("rate: FLOOR to CEILING");
        range("setRate of ma", ARGUMENT, (shaper, n) -> shaper.setRate(0, n), 10, 40);
        range("setRate of co", ARGUMENT, (shaper, n) -> shaper.setRate(3, n), 0, 30);
        Check.sentence("percent: 0 to 100");
        range("setYield", ARGUMENT, (shaper, n) -> shaper.setYield(3, n), 0, 100);
        Check.sentence("cap: 1 to 99999");
        range("setCap", ARGUMENT, (shaper, n) -> shaper.setCap(1, n), 1, 99999);
        Check.sentence("coins: 1 to 99999");
        range("topUp", ARGUMENT, (shaper, n) -> shaper.topUp(1, n), 1, 99999);
        Check.sentence("IllegalArgumentException if one of them is out of range");
        range("setLink capacity", ARGUMENT, (shaper, n) -> shaper.setLink(n, 30), 1, 9999);
        range("setLink threshold", ARGUMENT, (shaper, n) -> shaper.setLink(30, n), 1, 100);
        range("setLink both", ARGUMENT, (shaper, n) -> shaper.setLink(n, n), 1, 100);
        range("setPrices price", ARGUMENT, (shaper, n) -> shaper.setPrices(n, 0), 0, 99);
        range("setPrices refund of PRICE 9", ARGUMENT, (shaper, n) -> shaper.setPrices(9, n), 0, 9);
        range("setPrices refund of PRICE 0", ARGUMENT, (shaper, n) -> shaper.setPrices(0, n), 0, 0);
        range("setPrices refund of PRICE 99", ARGUMENT, (shaper, n) -> shaper.setPrices(99, n), 0, 99);
        range("setPrices both", ARGUMENT, (shaper, n) -> shaper.setPrices(n, n), 0, 99);
        Check.sentence("slot: 0 or 1");
        range("saveSnapshot", ARGUMENT, RefundShaper::saveSnapshot, 0, 1);
        refusedWith("restoreSnapshot", ARGUMENT, RefundShaper::restoreSnapshot, -1, 2);
        Check.sentence("IllegalStateException if the slot is empty");
        refused("restoreSnapshot(1)", STATE, shaper -> shaper.restoreSnapshot(1));
    }

    /** A balance that is full takes a hundred calls. */
    private static void fullBalance() {
        Check.sentence("a balance (0 to 9999999 coins)");
        RefundShaper shaper = Texts.of("link 9 9 9 9 9;house a 9 99;house b 9 99999;");
        for (int i = 1; i <= 99; i++) {
            Check.due("topUp 99999", 99 + 99999 * i, shaper.topUp(0, 99999));
        }
        Check.due("topUp 1", 9900001, shaper.topUp(0, 1));
        Check.dueThrow("topUp to 10000000", STATE, () -> shaper.topUp(0, 99999));
        Check.due("balance behind it", 9900001, shaper.household(0, 1));
        Check.due("topUp to 9999999", 9999999, shaper.topUp(0, 99998));
        Check.sentence("IllegalStateException if the balance would be greater than 9999999");
        String before = Whole.of(shaper);
        for (int coins : new int[] {1, 2, 99998, 99999}) {
            Check.dueThrow("topUp above it by " + coins, STATE, () -> shaper.topUp(0, coins));
            Check.due("balance behind it", 9999999, shaper.household(0, 1));
        }
        Check.sentence("if several exceptions apply, the one listed first is thrown");
        for (int coins : new int[] {-1, 0, 100000, LEAST, GREATEST}) {
            Check.dueThrow("topUp of a full one by " + coins, ARGUMENT, () -> shaper.topUp(0, coins));
            Check.dueThrow("topUp of none by " + coins, INDEX, () -> shaper.topUp(2, coins));
        }
        Check.alike("all that is told", before, Whole.of(shaper));
        Check.due("topUp of another one", 199998, shaper.topUp(1, 99999));
        Check.due("undo of the latest topUp that was none of those refused", 7, shaper.undo());
        Check.due("undo of the latest topUp that was none of those refused", 6, shaper.undo());
        Check.due("balance", 9900001, shaper.household(0, 1));
    }

    private static void emptyShaper() {
        Check.sentence("A household or program that does not exist causes an IndexOutOfBoundsException");
        RefundShaper empty = new RefundShaper();
        for (int n : new int[] {-1, 0, 1}) {
            Check.dueThrow("household of none", INDEX, () -> empty.household(n, 0));
            Check.dueThrow("program of none", INDEX, () -> empty.program(n, 0));
            Check.dueThrow("letter of no household", INDEX, () -> empty.letter(true, n, 0));
            Check.dueThrow("letter of no program", INDEX, () -> empty.letter(false, n, 0));
            Check.dueThrow("counted of none", INDEX, () -> empty.counted(n, 0));
            Check.dueThrow("latest of none", INDEX, () -> empty.latest(n, 0));
            Check.dueThrow("served of none", INDEX, () -> empty.served(n));
            Check.dueThrow("hour of none", INDEX, () -> empty.hour(0, n));
            Check.dueThrow("deliveredIn of none", INDEX, () -> empty.deliveredIn(n, 0));
            Check.dueThrow("turn of none", INDEX, () -> empty.turn(n, true));
            Check.dueThrow("setRate of none", INDEX, () -> empty.setRate(n, 0));
            Check.dueThrow("setYield of none", INDEX, () -> empty.setYield(n, 0));
            Check.dueThrow("setCap of none", INDEX, () -> empty.setCap(n, 1));
            Check.dueThrow("topUp of none", INDEX, () -> empty.topUp(n, 1));
        }
        Check.dueThrow("fairness of none", ELEMENT, () -> empty.fairness(0));
        Check.alike("all that is told", Whole.of(new RefundShaper()), Whole.of(empty));
        Check.sentence("what: 0 units offered, 1 capped, 2 unpaid, 3 yielded, 4 dropped, 5 delivered");
        RefundShaper slotless = Texts.of(Scenes.FOUR);
        Check.dueThrow("latest 6 ahead of any slot", ARGUMENT, () -> slotless.latest(0, 6));
        Check.dueThrow("latest of none ahead of any slot", INDEX, () -> slotless.latest(4, 0));
    }

    private static void wouldBe() {
        Check.sentence("what would be: nothing changes");
        unchanged("dropsIn", shaper -> shaper.dropsIn(200));
        unchanged("deliveredIn", shaper -> shaper.deliveredIn(0, 200));
        unchanged("firstDrop", RefundShaper::firstDrop);
        unchanged("calmIn", RefundShaper::calmIn);
        unchanged("bestThreshold", shaper -> shaper.bestThreshold(30));
        unchanged("neededCapacity", shaper -> shaper.neededCapacity(10));
        unchanged("culprit", shaper -> shaper.culprit(50));
    }

    private static void telling() {
        Check.sentence("Returns a number");
        unchanged("all that only tell", Whole::of);
        unchanged("reportByte", shaper -> shaper.reportByte(0) + shaper.reportByte(-1) + shaper.reportByte(GREATEST));
        unchanged("letter", shaper -> shaper.letter(true, 0, LEAST) + shaper.letter(false, 0, GREATEST));
        unchanged("dropRow", shaper -> shaper.dropRow(-1) + shaper.dropRow(GREATEST));
        unchanged("checksum", RefundShaper::checksum);
    }

    public static void main(String[] arguments) {
        told();
        slots();
        noHousehold();
        noProgram();
        changes();
        fullBalance();
        emptyShaper();
        wouldBe();
        telling();
        Check.end("NothingChangesTest");
    }
}
