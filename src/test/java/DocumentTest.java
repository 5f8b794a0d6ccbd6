import java.util.NoSuchElementException;

/**
 * One walk through the document, from its first line on: an ordinary answer to each sentence that the other tests, which
 * look at the edges, do not quote.
 */
final class DocumentTest {
    /**
     * Worked by hand, slot by slot; all slots are warned.
     *
     * <pre>
     * slot 1: offered 12 8 10 3, yielded 1 2 0 0, sent 11 6 10 3, dropped 0 0 8 2, delivered 11 6 2 1
     *         rates 11 6 8 3, yields 10 25 0 25, misses 0 0 1 1, coins 336 70
     * slot 2: offered 11 6 8 3, yielded 1 1 0 0, sent 10 5 8 3, dropped 0 0 5 1, delivered 10 5 3 2
     *         rates 10 5 6 3, yields 10 25 7 31, misses 0 0 2 2, coins 281 45
     * slot 3: offered 10 5 6 3, yielded 1 1 0 0, sent 9 4 6 3, dropped 0 0 2 0, delivered 9 4 4 3
     * </pre>
     */
    private static final String TOWN = "link 20 60 3 2 1;house home 90 400;house away 50 99;"
            + "program mail meek home 4 30 12 2 10 5;program news steady away 2 20 8 3 25 4;"
            + "program song stubborn home 1 40 10 4 0 7;program talk copying away 0 15 3 5 5 6;";

    private DocumentTest() {
    }

    private static RefundShaper town(int slots) {
        RefundShaper shaper = Texts.of(TOWN);
        if (slots > 0) {
            shaper.run(slots);
        }
        return shaper;
    }

    private interface Asked {
        Object with(int what);
    }

    /** The answers of a call for each number from 0 on, with a space between. */
    private static String row(int numbers, Asked asked) {
        StringBuilder row = new StringBuilder();
        for (int what = 0; what < numbers; what++) {
            row.append(what > 0 ? " " : "").append(asked.with(what));
        }
        return row.toString();
    }

    private static void firstWords() {
        Check.sentence("when too much comes, those that yield have a part of what they paid refunded, and the units of the others are dropped; programs learn by that how much to yield; households have caps by the hour");
        RefundShaper shaper = town(1);
        Check.due("refunded", "2 4 0 0", row(4, p -> shaper.counted(p, 7)));
        Check.due("dropped", "0 0 8 2", row(4, p -> shaper.counted(p, 4)));
        Check.due("yields", "10 25 0 25", row(4, p -> shaper.program(p, 6)));
        shaper.setCap(0, 23);
        shaper.run(1);
        Check.due("capped", "10 0 8 0", row(4, p -> shaper.latest(p, 1)));
    }

    private static void things() {
        Check.sentence("The link has the terms CAPACITY (1 to 9999 units a slot), THRESHOLD (1 to 100 percent), PRICE (0 to 99 coins for a unit), REFUND (0 to PRICE coins for a unit) and FORGET (0 to 9)");
        RefundShaper shaper = town(0);
        Check.due("terms", "20 60 3 2 1", row(5, what -> shaper.size(what + 2)));
        Check.sentence("A household has a name, a CAP (1 to 99999 units an hour) and a balance (0 to 9999999 coins)");
        Check.due("name of home", "8 15 13 5 0", row(5, i -> shaper.letter(true, 0, i)));
        Check.due("home", "90 400 0 0 2 2", row(6, what -> shaper.household(0, what)));
        Check.due("away", "50 99 0 0 2 2", row(6, what -> shaper.household(1, what)));
        Check.sentence("A program has a name, a household, a kind, a rate, a FLOOR and a CEILING (0 to 999, FLOOR not above CEILING), a GAIN (0 to 99), a yield (0 to 100 percent) and a LEARN (0 to 50)");
        Check.due("name of song", "19 15 14 7 0", row(5, i -> shaper.letter(false, 2, i)));
        Check.due("mail", "0 0 12 4 30 2 10 5 10 0 1", row(11, what -> shaper.program(0, what)));
        Check.due("news", "1 1 8 2 20 3 25 4 25 0 1", row(11, what -> shaper.program(1, what)));
        Check.due("song", "0 2 10 1 40 4 0 7 0 0 1", row(11, what -> shaper.program(2, what)));
        Check.due("talk", "1 3 3 0 15 5 5 6 5 0 1", row(11, what -> shaper.program(3, what)));
        Check.sentence("The rate is always from FLOOR to CEILING");
        RefundShaper busy = Texts.of(Scenes.full(40, 90, 0, 0, 3));
        for (int slot = 0; slot < 60; slot++) {
            busy.setLink(slot % 3 == 0 ? 9 : 999, 90);
            busy.run(1);
            for (int p = 0; p < 12; p += 3) {
                int rate = busy.program(p, 2);
                Check.due("rate " + rate + " from 1 to 40", true, 1 <= rate && rate <= 40);
            }
        }
    }

    private static void admission() {
        Check.sentence("Each program that is on, by number, offers as many units as its rate");
        RefundShaper shaper = town(1);
        Check.due("offered", "12 8 10 3", row(4, p -> shaper.latest(p, 0)));
        Check.due("used by home", 22, shaper.household(0, 2));
        Check.due("used by away", 11, shaper.household(1, 2));
        Check.sentence("the others are capped");
        RefundShaper poor = Texts.of(TOWN.replace("90 400", "15 40"));
        poor.run(1);
        Check.due("capped", "0 0 7 0", row(4, p -> poor.latest(p, 1)));
        Check.sentence("the others are unpaid");
        // 36 of 40 coins are paid for mail, and the 4 that are left pay for one unit of song
        Check.due("unpaid", "0 0 2 0", row(4, p -> poor.latest(p, 2)));
        Check.due("used by home", 13, poor.household(0, 2));
        Check.sentence("All units offered are capped, unpaid, yielded, dropped or delivered");
        Check.due("song, of which all are told", "10 7 2 0 1 0", row(6, what -> poor.latest(2, what)));
    }

    private static void sending() {
        RefundShaper shaper = town(1);
        Check.sentence("In a warned slot each program yields its admitted units times its yield, divided by 100");
        Check.due("yielded", "1 2 0 0", row(4, p -> shaper.latest(p, 3)));
        Check.sentence("All numbers are integers if nothing else is said; quotients are rounded down. Money is counted in coins");
        // 12 times 10, divided by 100, is 1; paid are 22 times 3 and 11 times 3 coins, refunded 1 and 2 times 2
        Check.due("yielded by mail", 1, shaper.latest(0, 3));
        Check.due("coins", "336 70", row(2, h -> shaper.household(h, 1)));
        Check.sentence("The other admitted units are sent");
        Check.due("delivered of what nothing is dropped of", 11, shaper.latest(0, 5));
        Check.sentence("To drop a number of units among some programs: of each one are dropped that number times the units that it sent, divided by the units that all of these sent; then, as long as fewer are dropped in all than that number, one unit more of each of these by number that has a unit left");
        // the excess is 10: 100 / 13 is 7 and 30 / 13 is 2, and one more
        Check.due("dropped", "0 0 8 2", row(4, p -> shaper.latest(p, 4)));
        Check.sentence("What was sent and is not dropped is delivered");
        Check.due("delivered", "11 6 2 1", row(4, p -> shaper.latest(p, 5)));
        Check.sentence("and the rest of the excess is dropped among the programs that yielded something");
        shaper.undo();
        shaper.setLink(14, 60);
        Check.due("excess", 16, shaper.run(1));
        // all 13 of song and talk; the rest is 3: 33 / 17 is 1 and 18 / 17 is 1, and one more
        Check.due("dropped", "2 1 10 3", row(4, p -> shaper.latest(p, 4)));
    }

    private static void learning() {
        RefundShaper shaper = town(1);
        Check.sentence("Each program that is on learns, by number, with what happened to it in this slot");
        Check.due("rates", "11 6 8 3", row(4, p -> shaper.program(p, 2)));
        Check.due("misses", "0 0 1 1", row(4, p -> shaper.program(p, 9)));
        Check.sentence("That of a copying one becomes the yield (as it is ahead of this learning of all programs) of the program that yielded the most units in this slot");
        Check.due("yield of talk", 25, shaper.program(3, 6));
        Check.sentence("That of a stubborn one grows by LEARN if its misses are even then, otherwise it stays");
        Check.due("yield of song", 0, shaper.program(2, 6));
        shaper.run(1);
        Check.due("yield of song", 7, shaper.program(2, 6));
        Check.due("misses", "0 0 2 2", row(4, p -> shaper.program(p, 9)));
        Check.sentence("it grows by LEARN otherwise");
        Check.due("yield of talk", 31, shaper.program(3, 6));
        Check.sentence("The yield of a meek program grows by twice LEARN, that of a steady one by LEARN");
        RefundShaper less = town(0);
        less.setLink(1, 60);
        less.run(1);
        Check.due("yields", "20 29 0 25", row(4, p -> less.program(p, 6)));
        Check.sentence("The following happens in a slot, one after the other");
        Check.due("what a slot learns is for the next one", "1 2 0 0", row(4, p -> less.latest(p, 3)));
        less.run(1);
        // 9, 6, 8 and 3 units are admitted
        Check.due("yielded by what was learnt", "1 1 0 0", row(4, p -> less.latest(p, 3)));
    }

    private static void hours() {
        Check.sentence("TIME grows by 1. If an hour ends by this, it is kept, with the delivered units of each household in it");
        RefundShaper shaper = town(3);
        Check.due("TIME", 3, shaper.size(7));
        Check.due("delivered in the hour that goes on", "39 21", row(2, h -> shaper.household(h, 3)));
        Check.due("hours", 0, shaper.size(8));
        shaper.setLink(1, 1);
        shaper.turn(0, false);
        shaper.turn(1, false);
        shaper.turn(2, false);
        shaper.turn(3, false);
        shaper.run(9);
        Check.due("TIME", 12, shaper.size(7));
        Check.due("hours", 1, shaper.size(8));
        Check.sentence("Returns the units of a household that were delivered in a kept hour");
        Check.due("hour 0", "39 21", row(2, h -> shaper.hour(0, h)));
        Check.sentence("hour: the number of the hour: its first TIME divided by 12");
        shaper.turn(1, true);
        shaper.setLink(20, 100);
        shaper.run(12);
        Check.due("hour 0, of TIME 0 to 11", "39 21", row(2, h -> shaper.hour(0, h)));
        Check.due("hour 1, of TIME 12 to 23, has nothing of home", 0, shaper.hour(1, 0));
        Check.dueThrow("hour 2", NoSuchElementException.class, () -> shaper.hour(2, 0));
        Check.sentence("Returns the fairness of the units that were delivered to the households in a kept hour, of all households that have a program");
        Check.due("fairness of 39 and 21", 3600.0 / 3924.0, shaper.fairness(0));
        Check.due("fairness of 0 and some", 0.5, shaper.fairness(1));
        Check.due("unfairest", 1, shaper.unfairest());
        Check.sentence("The fairness of some numbers is the square of their sum, divided by how many there are times the sum of their squares, as a double");
        Check.due("fairnessOfPrograms of 11 6 2 1", 400.0 / 648.0, town(1).fairnessOfPrograms());
        Check.sentence("Returns the fairness of the units that all programs had delivered since the text was parsed");
        Check.due("fairnessOfPrograms of 30 15 9 6", 3600.0 / 4968.0, town(3).fairnessOfPrograms());
    }

    private static void texts() {
        Check.sentence("text = \"link\" CAPACITY THRESHOLD PRICE REFUND FORGET \";\" { statement \";\" } statement = \"house\" NAME CAP balance | \"program\" NAME kind NAME FLOOR CEILING rate GAIN yield LEARN | \"off\" NAME kind = \"meek\" | \"steady\" | \"stubborn\" | \"copying\"");
        RefundShaper shaper = Texts.of("link 1 2 4 3 5; house g 6 7; program p copying g 8 11 9 12 13 14; off p;");
        Check.due("link", "1 2 4 3 5", row(5, what -> shaper.size(what + 2)));
        Check.due("house", "6 7 0 0 1 0", row(6, what -> shaper.household(0, what)));
        Check.due("program", "0 3 9 8 11 12 13 14 13 0 0", row(11, what -> shaper.program(0, what)));
        Check.sentence("The second NAME of a program is that of its household; \"off\" turns a program off");
        RefundShaper two = Texts.of(TOWN + "off news;");
        Check.due("households", "0 1 0 1", row(4, p -> two.program(p, 0)));
        Check.due("on", "1 0 1 1", row(4, p -> two.program(p, 10)));
        Check.sentence("Errors have a code: 1 an invalid token");
        Texts.isWrong(TOWN + "house Inn 9 9;", TOWN.length() + 6, 1);
        Check.sentence("2 a number that is out of its range");
        Texts.isWrong(TOWN + "house inn 0 9;", TOWN.length() + 10, 2);
        Check.sentence("of a CEILING: FLOOR to 999");
        Texts.isWrong(TOWN + "program p meek home 9 8 9 0 0 0;", TOWN.length() + 22, 2);
        Check.sentence("-2 - (8 * offset + code) of the error");
        Check.due("error 2 at 5", -44, Texts.parse(new RefundShaper(), "link 0 9 9 9 9;"));
        Check.sentence("Returns the new length of the buffer");
        RefundShaper filled = new RefundShaper();
        Check.due("append", "20 40 60", row(3, i -> filled.append(i, i, i, i, i)));
        Check.sentence("All that is counted is counted since the text was parsed");
        RefundShaper again = town(3);
        Texts.parse(again, TOWN);
        Check.due("totals", "0 0 0 0 0 0 0 0", row(8, again::total));
        Check.due("slots that were warned or dropped something", "0 0", row(2, what -> again.size(what + 11)));
        Check.due("latest", -1, again.latest(0, 0));
        again.run(1);
        Check.due("totals", "33 0 0 3 10 20 99 6", row(8, again::total));
    }

    private static void nothing() {
        Check.sentence("Returned if there is no result");
        RefundShaper none = new RefundShaper();
        for (int i = 0; i < 35; i++) {
            none.append(0, 0, 0, 0, 0);
        }
        RefundShaper slotless = town(0);
        int[] answers = {none.append(0, 0, 0, 0, 0), slotless.latest(0, 0), none.unfairest(), none.mostYielding(),
            none.dropRow(0), none.firstDrop(), town(0).dropRow(4), none.culprit(1), none.reportByte(0), none.undo(),
            Scenes.free(1, 100, 0, "p meek h 2 2 2 0 0 0").calmIn()};
        for (int i = 0; i < answers.length; i++) {
            Check.due("answer " + i, RefundShaper.NONE, answers[i]);
        }
        Check.sentence("A method that throws an exception changes nothing");
        RefundShaper shaper = town(1);
        String before = Whole.of(town(1));
        Check.dueThrow("setRate", IllegalArgumentException.class, () -> shaper.setRate(0, 31));
        Check.dueThrow("run", IllegalArgumentException.class, () -> shaper.run(0));
        Check.dueThrow("setPrices", IllegalArgumentException.class, () -> shaper.setPrices(1, 2));
        Check.alike("all that is told", before, Whole.of(shaper));
    }

    private static void numbers() {
        RefundShaper shaper = town(3);
        Check.sentence("what: 0 households, 1 programs, 2 CAPACITY, 3 THRESHOLD, 4 PRICE, 5 REFUND, 6 FORGET, 7 TIME, 8 hours that are kept, 9 changes that can be undone, 10 the length of the buffer, 11 slots that were warned, 12 slots in which units were dropped");
        shaper.setLink(20, 60);
        shaper.append(1, 2, 3, 4, 5);
        Check.due("size", "2 4 20 60 3 2 1 3 0 2 20 3 3", row(13, shaper::size));
        Check.sentence("what: 0 CAP, 1 balance, 2 units of the CAP that are used in this hour, 3 units of it that were delivered in this hour, 4 its programs, 5 its programs that are on");
        shaper.turn(2, false);
        Check.due("home", "90 235 57 39 2 1", row(6, what -> shaper.household(0, what)));
        Check.due("away", "50 23 28 21 2 2", row(6, what -> shaper.household(1, what)));
        Check.sentence("what: 0 its household, 1 its kind, 2 its rate, 3 FLOOR, 4 CEILING, 5 GAIN, 6 its yield, 7 LEARN, 8 BASE, 9 its misses, 10 1 if it is on, 0 otherwise");
        // 2 of the 6 units of song were dropped in slot 3: the third miss
        Check.due("song", "0 2 5 1 40 4 7 7 0 3 0", row(11, what -> shaper.program(2, what)));
        Check.due("talk", "1 3 8 0 15 5 31 6 5 0 1", row(11, what -> shaper.program(3, what)));
        Check.sentence("Returns a letter of a name. isHousehold: whether a household is meant, not a program index: 0 for the first letter Returns 1 to 26 for a to z; 0 if there is no such letter (index: any number)");
        Check.due("away", "1 23 1 25 0", row(5, i -> shaper.letter(true, 1, i)));
        Check.due("news", "14 5 23 19 0", row(5, i -> shaper.letter(false, 1, i)));
        Check.sentence("what: 0 units offered, 1 capped, 2 unpaid, 3 yielded, 4 dropped, 5 delivered, 6 coins paid for it, 7 coins refunded for it");
        Check.due("counted of mail", "33 0 0 3 0 30 99 6", row(8, what -> shaper.counted(0, what)));
        Check.due("counted of song", "24 0 0 0 15 9 72 0", row(8, what -> shaper.counted(2, what)));
        Check.sentence("Returns a count of all programs together. what: as of counted()");
        Check.due("total", "85 0 0 7 18 60 255 14", row(8, shaper::total));
        Check.sentence("Returns a number of a program in the latest slot. what: 0 units offered, 1 capped, 2 unpaid, 3 yielded, 4 dropped, 5 delivered");
        Check.due("latest of song", "6 0 0 0 2 4", row(6, what -> shaper.latest(2, what)));
        Check.due("latest of mail", "10 0 0 1 0 9", row(6, what -> shaper.latest(0, what)));
        Check.sentence("Returns the units of a program that were delivered, as a float, divided by those that it offered, as a float");
        Check.due("served", "0.90909094 0.7894737 0.375 0.6666667", row(4, shaper::served));
        Check.due("mostYielding", 1, shaper.mostYielding());
        Check.due("dropRow", "2 3 0 1 -1", row(5, shaper::dropRow));
    }

    private static void wouldBe() {
        RefundShaper shaper = town(0);
        Check.sentence("Returns the units that would be dropped in so many slots");
        Check.due("dropsIn", "0 10 16 18", row(4, shaper::dropsIn));
        Check.sentence("Returns the units of a program that would be delivered in so many slots");
        Check.due("deliveredIn of song", "0 2 5 9", row(4, slots -> shaper.deliveredIn(2, slots)));
        Check.due("deliveredIn 3", "30 15 9 6", row(4, p -> shaper.deliveredIn(p, 3)));
        Check.due("TIME", 0, shaper.size(7));
        Check.sentence("Returns how many units were dropped in them");
        Check.due("run", 18, shaper.run(3));
        Check.sentence("Returns the program without which (if it was turned off now, of those that are on) the fewest units would be dropped");
        RefundShaper first = town(0);
        // without mail 19 of 20 are sent, without song 20 of 20
        Check.due("culprit", 0, first.culprit(1));
        Check.sentence("Returns the least CAPACITY by which nothing would be dropped");
        Check.due("neededCapacity", 30, first.neededCapacity(1));
        Check.sentence("Returns the THRESHOLD by which the fewest units would be dropped");
        // as long as 33 units are too many for it, the same happens
        Check.due("bestThreshold", 100, first.bestThreshold(1));
    }

    private static void changes() {
        RefundShaper shaper = town(0);
        Check.sentence("Turns a program on or off. Returns whether it was on");
        Check.due("turn", "true false", shaper.turn(1, false) + " " + shaper.turn(1, true));
        Check.sentence("Sets the rate of a program. rate: FLOOR to CEILING Returns the previous rate");
        Check.due("setRate", "12 4", shaper.setRate(0, 4) + " " + shaper.setRate(0, 30));
        Check.due("rate", 30, shaper.program(0, 2));
        Check.sentence("Sets the yield of a program (BASE stays). percent: 0 to 100 Returns the previous yield");
        Check.due("setYield", "10 0", shaper.setYield(0, 0) + " " + shaper.setYield(0, 100));
        Check.due("yield and BASE", "100 10", shaper.program(0, 6) + " " + shaper.program(0, 8));
        Check.sentence("Sets the CAP of a household. cap: 1 to 99999 Returns the previous CAP");
        Check.due("setCap", "50 1", shaper.setCap(1, 1) + " " + shaper.setCap(1, 99999));
        Check.due("CAP", 99999, shaper.household(1, 0));
        Check.sentence("Adds coins to the balance of a household. coins: 1 to 99999 Returns the balance then");
        Check.due("topUp", "100 100099", shaper.topUp(1, 1) + " " + shaper.topUp(1, 99999));
        Check.due("balances", "400 100099", row(2, h -> shaper.household(h, 1)));
        Check.sentence("Sets CAPACITY and THRESHOLD. Returns the previous CAPACITY");
        Check.due("setLink", "20 30", shaper.setLink(30, 40) + " " + shaper.setLink(31, 41));
        Check.sentence("Sets PRICE and REFUND. Returns the previous PRICE");
        Check.due("setPrices", "3 9", shaper.setPrices(9, 8) + " " + shaper.setPrices(7, 6));
        Check.due("terms", "31 41 7 6 1", row(5, what -> shaper.size(what + 2)));
        Check.sentence("Undoes the latest change that has not been undone. Returns the number of changes that can still be undone");
        Check.due("undo", "7 6 5 4 3 2 1 0 -1", row(9, i -> shaper.undo()));
        Check.due("yield, by the sixth of the 14 changes", 100, shaper.program(0, 6));
        Check.due("CAP, by none", 50, shaper.household(1, 0));
    }

    private static void reports() {
        RefundShaper shaper = town(2);
        shaper.turn(1, false);
        Check.sentence("for each program, by number, its name, a space, its rate, a percent sign (byte 37), its yield, a space and the units of it that were delivered; a minus sign (byte 45) behind that if it is off; and a line feed (byte 10). Returns the number of its bytes");
        String due = "mail 10%10 21\nnews 5%25 11-\nsong 6%7 5\ntalk 3%31 3\n";
        Check.due("report", due.length(), shaper.report());
        Check.due("its bytes", due, Texts.report(shaper));
        Check.sentence("Saves a snapshot in a slot, in place of an earlier one. slot: 0 or 1 Returns whether there was an earlier one");
        Check.due("saveSnapshot", "false false true", shaper.saveSnapshot(0) + " " + shaper.saveSnapshot(1) + " "
                + shaper.saveSnapshot(0));
        shaper.run(5);
        Check.sentence("Returns the TIME then");
        Check.due("restoreSnapshot", 2, shaper.restoreSnapshot(0));
        Check.sentence("Returns a checksum. It is 0 at first; each number n in the following order replaces it by 31 * checksum + n, as a long that wraps: size(2) to size(8), size(11), size(12); for each household what household(household, 0) to household(household, 3) return; for each program what program(program, 2), program(program, 6) and program(program, 9) return, then counted(program, 0) to counted(program, 7)");
        long[] numbers = {20, 60, 3, 2, 1, 2, 0, 2, 2, 90, 281, 41, 26, 50, 45, 20, 14,
            10, 10, 0, 23, 0, 0, 2, 0, 21, 69, 4, 5, 25, 0, 14, 0, 0, 3, 0, 11, 42, 6,
            6, 7, 2, 18, 0, 0, 0, 13, 5, 54, 0, 3, 31, 2, 6, 0, 0, 0, 3, 3, 18, 0};
        long sum = 0;
        for (long number : numbers) {
            sum = 31 * sum + number;
        }
        Check.due("checksum", sum, shaper.checksum());
    }

    public static void main(String[] arguments) {
        firstWords();
        things();
        admission();
        sending();
        learning();
        hours();
        texts();
        nothing();
        numbers();
        wouldBe();
        changes();
        reports();
        Check.end("DocumentTest");
    }
}
