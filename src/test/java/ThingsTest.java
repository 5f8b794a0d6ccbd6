/** Promises 4 to 11: size, household, program, letter, counted, total, latest, isWarned. */
final class ThingsTest {
    private static final int LEAST = Integer.MIN_VALUE;
    private static final int GREATEST = Integer.MAX_VALUE;

    private ThingsTest() {
    }

    private static void promise4() {
        Check.sentence("Promise 4: size");
        RefundShaper shaper = Texts.of("link 50 90 7 2 3;house ha 99999 99999;house hb 9 9;"
                + "program p steady ha 60 60 60 0 0 0;");
        shaper.run(13);
        shaper.append(0, 0, 0, 0, 0);
        int[] due = {2, 1, 50, 90, 7, 2, 3, 13, 1, 1, 20, 13, 13};
        for (int what = 0; what < due.length; what++) {
            Check.due("size " + what, due[what], shaper.size(what));
        }
        shaper.setLink(60, 100);
        shaper.run(1);
        Check.due("warned slots", 13, shaper.size(11));
        Check.due("dropping slots", 13, shaper.size(12));
        shaper.setLink(60, 99);
        shaper.run(1);
        Check.due("warned slots", 14, shaper.size(11));
        Check.due("dropping slots", 13, shaper.size(12));
        Check.due("undos", 5, shaper.size(9));
    }

    private static void promise5() {
        Check.sentence("Promise 5: household");
        RefundShaper shaper = Texts.of(Scenes.FOUR + "off st;");
        shaper.turn(1, true);
        shaper.run(1);
        shaper.turn(3, false);
        int[] ha = {1000, 4869, 70, 34, 2, 2};
        int[] hb = {200, 541, 30, 16, 2, 1};
        for (int what = 0; what < 6; what++) {
            Check.due("household 0 " + what, ha[what], shaper.household(0, what));
            Check.due("household 1 " + what, hb[what], shaper.household(1, what));
        }
        shaper.run(11);
        Check.due("used in a new hour", 0, shaper.household(0, 2));
        Check.due("delivered in a new hour", 0, shaper.household(0, 3));
        Check.dueThrow("no household", IndexOutOfBoundsException.class, () -> new RefundShaper().household(0, 0));
    }

    private static void promise6() {
        Check.sentence("Promise 6: program");
        RefundShaper shaper = Texts.of(Scenes.FOUR + "off st;");
        int[][] due = {{0, 0, 40, 10, 40, 5, 0, 20, 0, 0, 1}, {0, 1, 30, 10, 60, 4, 30, 15, 30, 0, 0},
            {1, 2, 20, 5, 50, 2, 0, 10, 0, 0, 1}, {1, 3, 10, 0, 30, 1, 10, 5, 10, 0, 1}};
        for (int p = 0; p < 4; p++) {
            for (int what = 0; what < 11; what++) {
                Check.due("program " + p + " " + what, due[p][what], shaper.program(p, what));
            }
        }
        Check.dueThrow("no program", IndexOutOfBoundsException.class, () -> new RefundShaper().program(0, 0));
    }

    private static void promise7() {
        Check.sentence("Promise 7: letter");
        RefundShaper shaper = Texts.of("link 9 9 9 9 9;house az 9 9;house zyxwvuta 9 9;"
                + "program abcdefgh meek az 0 0 0 0 0 0;program zzzzzzzz meek az 0 0 0 0 0 0;");
        spells(shaper, true, 0, 1, 26);
        spells(shaper, true, 1, 26, 25, 24, 23, 22, 21, 20, 1);
        spells(shaper, false, 0, 1, 2, 3, 4, 5, 6, 7, 8);
        spells(shaper, false, 1, 26, 26, 26, 26, 26, 26, 26, 26);
        RefundShaper other = Texts.of("link 9 9 9 9 9;house h 9 9;house i 9 9;program p meek h 0 0 0 0 0 0;");
        Check.due("letter of household 1", 9, other.letter(true, 1, 0));
        Check.dueThrow("letter of program 1", IndexOutOfBoundsException.class, () -> other.letter(false, 1, 0));
    }

    private static void spells(RefundShaper shaper, boolean isHousehold, int which, int... letters) {
        for (int i = 0; i < letters.length; i++) {
            Check.due("letter " + i, letters[i], shaper.letter(isHousehold, which, i));
        }
        for (int none : new int[] {-1, letters.length, 8, 9, 12, 13, 64, 65, -64, 1 << 30, LEAST, GREATEST}) {
            Check.due("letter " + none, 0, shaper.letter(isHousehold, which, none));
        }
    }

    private static void promise8() {
        Check.sentence("Promise 8: counted");
        RefundShaper shaper = Texts.of(Scenes.FOUR);
        shaper.run(3);
        shaper.run(1);
        long[][] due = {{99, 0, 0, 19, 27, 53, 198, 19}, {77, 0, 0, 19, 0, 58, 154, 19},
            {58, 0, 0, 1, 18, 39, 116, 1}, {31, 0, 0, 3, 2, 26, 62, 3}};
        for (int p = 0; p < 4; p++) {
            for (int what = 0; what < 8; what++) {
                Check.due("counted " + p + " " + what, due[p][what], shaper.counted(p, what));
            }
        }
        // 10 offered: 4 within the CAP, 3 of them paid with 30 of the 32 coins; then 10 with 1 within, none paid
        RefundShaper poor = Texts.of("link 99 99 10 0 0;house h 4 32;program p meek h 10 10 10 0 0 0;");
        poor.run(2);
        long[] told = {20, 15, 2, 0, 0, 3, 30, 0};
        for (int what = 0; what < 8; what++) {
            Check.due("counted of a poor one " + what, told[what], poor.counted(0, what));
        }
    }

    private static void promise9() {
        Check.sentence("Promise 9: total");
        RefundShaper shaper = Texts.of(Scenes.FOUR);
        shaper.run(4);
        shaper.turn(0, false);
        long[] due = {265, 0, 0, 42, 47, 176, 530, 42};
        for (int what = 0; what < 8; what++) {
            Check.due("total " + what, due[what], shaper.total(what));
            Check.due("total of none " + what, 0, new RefundShaper().total(what));
        }
        // more coins than an int holds: 11 programs, 999 units a slot, 99 coins a unit, 2400 slots
        StringBuilder text = new StringBuilder("link 9999 100 0 0 0;");
        for (char c = 'a'; c < 'f'; c++) {
            text.append("house ").append(c).append(" 99999 99999;program ").append(c).append(" meek ").append(c)
                    .append(" 999 999 999 0 0 0;");
        }
        RefundShaper many = Texts.of(text.toString());
        for (int i = 0; i < 12; i++) {
            many.run(200);
        }
        Check.due("offered by five", 5L * 999 * 2400, many.total(0));
        many.setPrices(99, 99);
        many.setLink(1, 1);
        for (int p = 0; p < 5; p++) {
            many.setYield(p, 100);
        }
        for (int i = 0; i < 450; i++) {
            many.run(200);
        }
        Check.due("coins paid and refunded", many.total(6), many.total(7));
        Check.due("coins paid", 5L * 999 * 99 * 450 * 200, many.total(6));
        Check.due("coins paid for one", 999L * 99 * 450 * 200, many.counted(4, 6));
    }

    private static void promise10() {
        Check.sentence("Promise 10: latest");
        RefundShaper shaper = Texts.of(Scenes.FOUR);
        for (int what = 0; what < 6; what++) {
            Check.due("latest of no slot", -1, shaper.latest(0, what));
        }
        shaper.run(1);
        String[] first = {"40 30 20 10", "0 0 0 0", "0 0 0 0", "0 9 0 1", "27 0 13 0", "13 21 7 9"};
        String[] second = {"30 21 15 9", "0 0 0 0", "0 0 0 0", "12 6 0 0", "0 0 5 2", "18 15 10 7"};
        String[] fourth = {"0 11 11 5", "0 0 0 0", "0 0 0 0", "0 0 0 0", "0 0 0 0", "0 11 11 5"};
        latestAre(shaper, first);
        shaper.run(1);
        latestAre(shaper, second);
        shaper.run(1);
        shaper.turn(0, false);
        Check.due("latest of one turned off behind the slot", 18, shaper.latest(0, 0));
        shaper.run(1);
        latestAre(shaper, fourth);
        shaper.undo();
        shaper.undo();
        shaper.undo();
        shaper.undo();
        shaper.undo();
        Check.due("latest of an undone slot", -1, shaper.latest(0, 0));
        RefundShaper poor = Texts.of("link 99 99 10 0 0;house h 4 32;program p meek h 10 10 10 0 0 0;");
        poor.run(1);
        Check.due("latest capped", "6", Scenes.latest(poor, 1));
        Check.due("latest unpaid", "1", Scenes.latest(poor, 2));
        Check.due("latest delivered", "3", Scenes.latest(poor, 5));
    }

    private static void latestAre(RefundShaper shaper, String[] due) {
        for (int what = 0; what < due.length; what++) {
            Check.due("latest " + what, due[what], Scenes.latest(shaper, what));
        }
    }

    private static void promise11() {
        Check.sentence("Promise 11: isWarned");
        RefundShaper shaper = Texts.of(Scenes.FOUR);
        boolean[] due = {true, true, true, false, false};
        Check.due("isWarned ahead", false, shaper.isWarned());
        for (boolean warned : due) {
            shaper.run(1);
            Check.due("isWarned", warned, shaper.isWarned());
        }
        shaper.setLink(49, 100);
        Check.due("isWarned before the next slot", false, shaper.isWarned());
        shaper.run(1);
        Check.due("isWarned by less CAPACITY", true, shaper.isWarned());
        shaper.undo();
        Check.due("isWarned undone", false, shaper.isWarned());
    }

    public static void main(String[] arguments) {
        promise4();
        promise5();
        promise6();
        promise7();
        promise8();
        promise9();
        promise10();
        promise11();
        Check.end("ThingsTest");
    }
}
