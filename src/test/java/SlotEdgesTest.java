/** What happens in a slot, sentence by sentence, at the edges: one unit, coin or percent less, just enough, one more. */
final class SlotEdgesTest {
    private static final int MEEK = 0;
    private static final int STEADY = 1;
    private static final int STUBBORN = 2;
    private static final int COPYING = 3;
    private static final String[] KINDS = {"meek", "steady", "stubborn", "copying"};

    private SlotEdgesTest() {
    }

    /** A link and one household with programs a, b, .. that are told by their numbers, FLOOR to LEARN. */
    private static RefundShaper home(String link, String house, String... programs) {
        StringBuilder text = new StringBuilder("link " + link + ";house h " + house + ";");
        for (int p = 0; p < programs.length; p++) {
            text.append("program ").append((char) ('a' + p)).append(" steady h ").append(programs[p]).append(';');
        }
        return Texts.of(text.toString());
    }

    private static void after(RefundShaper shaper, String what, int which, String due) {
        Check.due(what, due, Scenes.latest(shaper, which));
    }

    private static void caps() {
        Check.sentence("as many as are within what is left of its household's CAP in this hour");
        int[][] one = {{10, 9, 0}, {10, 10, 0}, {10, 11, 1}, {1, 0, 0}, {1, 1, 0}, {1, 2, 1}, {1, 999, 998},
            {998, 999, 1}, {999, 999, 0}};
        for (int[] due : one) {
            RefundShaper shaper = home("9999 100 0 0 0", due[0] + " 0", "0 999 " + due[1] + " 0 0 0");
            shaper.run(1);
            Check.due(due[1] + " by CAP " + due[0], due[2], shaper.latest(0, 1));
            Check.due(due[1] + " by CAP " + due[0], due[1] - due[2], shaper.latest(0, 5));
            Check.due("used", due[1] - due[2], shaper.household(0, 2));
        }
        Check.sentence("those ahead in this slot included");
        int[] caps = {9, 10, 11, 19, 20};
        String[] capped = {"1 0 10", "0 0 10", "0 0 9", "0 0 1", "0 0 0"};
        for (int i = 0; i < caps.length; i++) {
            RefundShaper shaper = Texts.of("link 9999 100 0 0 0;house h " + caps[i] + " 0;house g 10 0;"
                    + "program p meek h 10 10 10 0 0 0;program q meek g 10 10 10 0 0 0;program r meek h 10 10 10 0 0 0;");
            shaper.run(1);
            after(shaper, "capped by CAP " + caps[i], 1, capped[i]);
        }
    }

    private static void capsInTheHour() {
        Check.sentence("the units admitted to programs of the household in this hour");
        RefundShaper shaper = home("9999 100 0 0 0", "25 0", "10 10 10 0 0 0");
        int[] capped = {0, 0, 5, 10, 10, 10, 10, 10, 10, 10, 10, 10, 0, 0, 5, 10};
        int[] used = {10, 20, 25, 25, 25, 25, 25, 25, 25, 25, 25, 0, 10, 20, 25, 25};
        for (int slot = 0; slot < capped.length; slot++) {
            shaper.run(1);
            Check.due("capped in slot " + slot, capped[slot], shaper.latest(0, 1));
            Check.sentence("A new hour begins: nothing of the CAPs is used in it");
            Check.due("used behind slot " + slot, used[slot], shaper.household(0, 2));
            Check.due("delivered behind slot " + slot, used[slot], shaper.household(0, 3));
        }
        Check.sentence("within what is left of its household's CAP");
        int[][] later = {{1, 10}, {19, 10}, {20, 10}, {21, 9}, {29, 1}, {30, 0}, {31, 0}};
        for (int[] due : later) {
            RefundShaper changed = home("9999 100 0 0 0", "25 0", "10 10 10 0 0 0");
            changed.run(2);
            changed.setCap(0, due[0]);
            Check.due("used by a later CAP", 20, changed.household(0, 2));
            changed.run(1);
            Check.due("capped by a later CAP " + due[0], due[1], changed.latest(0, 1));
            Check.due("used by a later CAP", 30 - due[1], changed.household(0, 2));
        }
    }

    private static void coins() {
        Check.sentence("as many as the balance of its household, as it is now, can pay for with PRICE each");
        int[][] one = {{3, 0, 10, 0}, {3, 2, 10, 2}, {3, 3, 9, 0}, {3, 29, 1, 2}, {3, 30, 0, 0}, {3, 31, 0, 1},
            {0, 0, 0, 0}, {0, 5, 0, 5}, {99, 98, 10, 98}, {99, 99, 9, 0}, {1, 9, 1, 0}, {1, 10, 0, 0}, {99, 990, 0, 0}};
        for (int[] due : one) {
            RefundShaper shaper = home("9999 100 " + due[0] + " 0 0", "99 " + due[1], "10 10 10 0 0 0");
            shaper.run(1);
            String call = "PRICE " + due[0] + " balance " + due[1];
            Check.due("unpaid by " + call, due[2], shaper.latest(0, 2));
            Check.due("used by " + call, 10 - due[2], shaper.household(0, 2));
            Check.due("balance by " + call, due[3], shaper.household(0, 1));
            Check.due("paid by " + call, due[1] - due[3], shaper.counted(0, 6));
        }
        Check.sentence("The household pays PRICE for each admitted unit at once");
        int[] balances = {29, 30, 32, 33, 59, 60};
        String[] unpaid = {"1 0 10", "0 0 10", "0 0 10", "0 0 9", "0 0 1", "0 0 0"};
        for (int i = 0; i < balances.length; i++) {
            RefundShaper shaper = Texts.of("link 9999 100 3 0 0;house h 99 " + balances[i] + ";house g 99 30;"
                    + "program p meek h 10 10 10 0 0 0;program q meek g 10 10 10 0 0 0;program r meek h 10 10 10 0 0 0;");
            shaper.run(1);
            after(shaper, "unpaid by " + balances[i], 2, unpaid[i]);
        }
        Check.sentence("Of the units within the CAP it is admitted as many");
        RefundShaper both = home("9999 100 3 0 0", "4 7", "10 10 10 0 0 0");
        both.run(1);
        after(both, "capped", 1, "6");
        after(both, "unpaid", 2, "2");
        both.run(1);
        after(both, "capped, as unpaid units use nothing of the CAP", 1, "8");
        after(both, "unpaid", 2, "2");
    }

    private static void off() {
        Check.sentence("programs that are off offer 0");
        RefundShaper shaper = home("1 1 0 0 9", "15 0", "0 99 10 5 0 5", "0 99 10 5 0 5");
        shaper.turn(0, false);
        shaper.run(1);
        after(shaper, "offered", 0, "0 10");
        after(shaper, "capped", 1, "0 0");
        after(shaper, "dropped", 4, "0 9");
        Check.sentence("Each program that is on learns");
        Check.due("rates", "10 8", Scenes.programs(shaper, 2));
        Check.due("misses", "0 1", Scenes.programs(shaper, 9));
        shaper.setLink(9999, 100);
        shaper.setYield(0, 50);
        shaper.run(1);
        Check.due("rates", "10 13", Scenes.programs(shaper, 2));
        Check.due("yields", "50 0", Scenes.programs(shaper, 6));
        shaper.turn(0, true);
        shaper.run(1);
        Check.due("yields", "41 0", Scenes.programs(shaper, 6));
    }

    private static void warned() {
        Check.sentence("The slot is warned if 100 times the number of all admitted units is more than THRESHOLD times CAPACITY");
        int[][] one = {{20, 50, 10, 0}, {20, 50, 11, 1}, {1, 1, 0, 0}, {1, 1, 1, 1}, {100, 1, 1, 0}, {99, 1, 1, 1},
            {9999, 1, 99, 0}, {9999, 1, 100, 1}, {100, 100, 100, 0}, {100, 100, 101, 1}, {7, 33, 2, 0}, {7, 33, 3, 1},
            {999, 100, 999, 0}, {998, 100, 999, 1}, {1998, 50, 999, 0}, {1997, 50, 999, 1}};
        for (int[] due : one) {
            RefundShaper shaper = Scenes.free(due[0], due[1], 0, "p steady h 0 999 " + due[2] + " 0 0 0");
            shaper.run(1);
            Check.due("CAPACITY " + due[0] + " THRESHOLD " + due[1] + " units " + due[2], due[3] == 1, shaper.isWarned());
            Check.due("warned slots", due[3], shaper.size(11));
        }
        String most = "0 999 999 0 0 0";
        RefundShaper two = home("3000 50 0 0 0", "99999 0", most, "0 999 501 0 0 0");
        two.run(1);
        Check.due("1500 units", false, two.isWarned());
        two.setRate(1, 502);
        two.run(1);
        Check.due("1501 units", true, two.isWarned());
        RefundShaper many = home("9999 100 0 0 0", "99999 0", most, most, most, most, most, most, most, most, most, most,
                "0 999 9 0 0 0");
        many.run(1);
        Check.due("9999 units", false, many.isWarned());
        many.setRate(10, 10);
        many.run(1);
        Check.due("10000 units", true, many.isWarned());
        Check.sentence("the number of all admitted units");
        for (int more = 0; more < 2; more++) {
            RefundShaper capped = home("20 50 0 0 0", 10 + more + " 0", "0 99 20 0 0 0");
            capped.run(1);
            Check.due("capped to " + (10 + more), more == 1, capped.isWarned());
            RefundShaper unpaid = home("20 50 1 0 0", "99 " + (10 + more), "0 99 20 0 0 0");
            unpaid.run(1);
            Check.due("paid for " + (10 + more), more == 1, unpaid.isWarned());
        }
    }

    private static void yields() {
        Check.sentence("each program yields its admitted units times its yield, divided by 100");
        int[][] one = {{1, 99, 0}, {1, 100, 1}, {3, 33, 0}, {3, 34, 1}, {10, 9, 0}, {10, 10, 1}, {10, 19, 1}, {10, 100, 10},
            {199, 1, 1}, {200, 1, 2}, {999, 0, 0}, {999, 1, 9}, {999, 99, 989}, {999, 100, 999}};
        for (int[] due : one) {
            RefundShaper shaper = Scenes.free(1, 1, 0, "p steady h 0 999 " + due[0] + " 0 " + due[1] + " 0");
            shaper.run(1);
            Check.due(due[1] + " percent of " + due[0], due[2], shaper.latest(0, 3));
            Check.sentence("Yielded units are not sent");
            Check.due("delivered", Math.min(1, due[0] - due[2]), shaper.latest(0, 5));
        }
        Check.sentence("In other slots nothing is yielded");
        RefundShaper calm = Scenes.free(999, 100, 0, "p steady h 0 999 999 0 100 0");
        calm.run(1);
        Check.due("yielded", 0, calm.latest(0, 3));
        Check.due("delivered", 999, calm.latest(0, 5));
        Check.sentence("each program yields its admitted units");
        RefundShaper capped = home("1 1 0 0 0", "5 0", "0 99 10 0 50 0");
        capped.run(1);
        after(capped, "yielded of those within the CAP", 3, "2");
        RefundShaper unpaid = home("1 1 2 0 0", "9 7", "0 99 10 0 70 0");
        unpaid.run(1);
        after(unpaid, "yielded of those that are paid", 3, "2");
    }

    private static void refunds() {
        Check.sentence("its household is refunded REFUND coins for each of them");
        for (int refund : new int[] {0, 1, 4, 5}) {
            RefundShaper shaper = Texts.of("link 1 1 5 " + refund + " 0;house h 99 100;house g 99 50;"
                    + "program p steady h 0 99 10 0 50 0;program q steady g 0 99 10 0 0 0;");
            shaper.run(1);
            Check.due("balance", 50 + 5 * refund, shaper.household(0, 1));
            Check.due("refunded", 5 * refund, shaper.counted(0, 7));
            Check.sentence("Nothing is refunded for dropped units");
            after(shaper, "dropped", 4, "4 10");
            Check.due("balance of one without yields", 0, shaper.household(1, 1));
            Check.due("refunded to one without yields", 0, shaper.counted(1, 7));
        }
        Check.sentence("behind all payments of (1)");
        RefundShaper late = home("1 1 1 1 0", "99 10", "0 99 10 0 50 0", "0 99 10 0 0 0");
        late.run(1);
        after(late, "unpaid", 2, "0 10");
        Check.due("balance", 5, late.household(0, 1));
    }

    /** One slot of programs that are told by rates and yields, and what has to be dropped of each. */
    private static void drops(int capacity, String due, int... ratesAndYields) {
        String[] programs = new String[ratesAndYields.length / 2];
        for (int p = 0; p < programs.length; p++) {
            programs[p] = "0 999 " + ratesAndYields[2 * p] + " 0 " + ratesAndYields[2 * p + 1] + " 0";
        }
        RefundShaper shaper = home(capacity + " 1 0 0 0", "99999 0", programs);
        int dropped = shaper.run(1);
        after(shaper, "dropped by CAPACITY " + capacity, 4, due);
        int sum = 0;
        for (int p = 0; p < programs.length; p++) {
            sum += shaper.latest(p, 4);
            Check.due("delivered", shaper.latest(p, 0) - shaper.latest(p, 3) - shaper.latest(p, 4), shaper.latest(p, 5));
        }
        Check.due("dropped in all", sum, dropped);
        Check.due("slots in which units were dropped", dropped > 0 ? 1 : 0, shaper.size(12));
    }

    private static void excess() {
        Check.sentence("If more units are sent than CAPACITY, the excess is dropped");
        drops(11, "0", 10, 0);
        drops(10, "0", 10, 0);
        drops(9, "1", 10, 0);
        drops(1, "9", 10, 0);
        drops(5, "0", 10, 50);
        drops(4, "1", 10, 50);
        drops(1, "998", 999, 0);
        Check.sentence("if they all together sent less than the excess, all their units are dropped");
        int[] mixed = {20, 50, 5, 0, 30, 50, 4, 10};
        drops(34, "0 0 0 0", mixed);
        drops(33, "0 1 0 0", mixed);
        drops(26, "0 5 0 3", mixed);
        drops(25, "0 5 0 4", mixed);
        drops(24, "1 5 0 4", mixed);
        drops(10, "6 5 9 4", mixed);
        drops(1, "10 5 14 4", mixed);
        Check.sentence("among the programs that yielded nothing in this slot at first");
        drops(7, "1 1 1", 4, 50, 6, 50, 9, 50);
        drops(5, "1 0", 1, 0, 6, 25);
        drops(5, "0 1", 6, 25, 1, 99);
        drops(5, "1 0", 6, 16, 1, 100);
    }

    private static void shares() {
        Check.sentence("that number times the units that it sent, divided by the units that all of these sent");
        drops(15, "5 10", 10, 0, 20, 0);
        drops(3, "1 1 6", 1, 0, 1, 0, 9, 0);
        drops(10, "1 1 1 1 1", 3, 0, 3, 0, 3, 0, 3, 0, 3, 0);
        Check.sentence("one unit more of each of these by number that has a unit left, the lowest number first");
        drops(9, "0 1 1 0 0", 0, 0, 3, 0, 3, 0, 3, 0, 2, 0);
        drops(14, "1 0 0 0 0", 3, 0, 3, 0, 3, 0, 3, 0, 3, 0);
        drops(11, "1 1 1 1 0", 3, 0, 3, 0, 3, 0, 3, 0, 3, 0);
        drops(9, "2 1 1 1 1", 3, 0, 3, 0, 3, 0, 3, 0, 3, 0);
        drops(1, "1 1 1 0", 1, 0, 1, 0, 1, 0, 1, 0);
        drops(7, "0 1 0 1", 8, 50, 2, 0, 2, 50, 2, 0);
        drops(6, "0 2 0 1", 8, 50, 2, 0, 2, 50, 2, 0);
        drops(3, "1 1 0", 4, 50, 2, 50, 4, 50);
        drops(2, "2 0 1", 4, 50, 2, 50, 4, 50);
        RefundShaper capped = Texts.of("link 5 1 0 0 0;house h 3 0;house g 99 0;program a steady h 0 99 10 0 0 0;"
                + "program b steady g 0 99 3 0 0 0;");
        capped.run(1);
        after(capped, "dropped of one that has sent few of what it offered", 4, "1 0");
        int[] most = new int[24];
        for (int p = 0; p < 12; p++) {
            most[2 * p] = 999;
        }
        drops(1, "999 999 999 999 999 999 999 999 999 999 999 998", most);
        drops(9999, "166 166 166 166 166 166 166 166 166 165 165 165", most);
    }

    /** A slot in which units of a program of the kind are dropped, with this yield, this LEARN and these earlier misses. */
    private static int yieldBehindDrops(int kind, int misses, int yield, int learn) {
        RefundShaper shaper = Texts.of("link 1 100 0 0 9;house h 99999 0;program p " + KINDS[kind]
                + " h 999 999 999 0 0 " + learn + ";");
        if (misses > 0) {
            shaper.run(misses);
        }
        shaper.setYield(0, yield);
        shaper.run(1);
        Check.due("misses", misses + 1, shaper.program(0, 9));
        return shaper.program(0, 6);
    }

    private static void yieldsBehindDrops() {
        Check.sentence("its yield becomes greater as its kind tells, but not above 100");
        int[][] due = {{MEEK, 0, 0, 50, 100}, {MEEK, 0, 1, 50, 100}, {MEEK, 0, 97, 1, 99}, {MEEK, 0, 98, 1, 100},
            {MEEK, 0, 99, 1, 100}, {MEEK, 0, 99, 0, 99}, {MEEK, 1, 10, 5, 20}, {STEADY, 0, 49, 50, 99},
            {STEADY, 0, 50, 50, 100}, {STEADY, 0, 51, 50, 100}, {STEADY, 0, 99, 0, 99}, {STEADY, 1, 10, 5, 15},
            {STUBBORN, 0, 10, 5, 10}, {STUBBORN, 1, 10, 5, 15}, {STUBBORN, 2, 10, 5, 10}, {STUBBORN, 3, 10, 5, 15},
            {STUBBORN, 1, 94, 5, 99}, {STUBBORN, 1, 95, 5, 100}, {STUBBORN, 1, 96, 5, 100}, {STUBBORN, 0, 96, 50, 96},
            {COPYING, 0, 0, 7, 7}, {COPYING, 0, 10, 5, 15}, {COPYING, 0, 50, 50, 100}, {COPYING, 0, 51, 50, 100},
            {COPYING, 0, 49, 50, 99}};
        for (int[] d : due) {
            Check.due(KINDS[d[0]] + " with " + d[1] + " misses, yield " + d[2] + ", LEARN " + d[3], d[4],
                    yieldBehindDrops(d[0], d[1], d[2], d[3]));
        }
    }

    /** Units of a copying program with yield 30 and LEARN 9 are dropped; the others are told by rates and yields. */
    private static void copies(int due, int... ratesAndYields) {
        StringBuilder text = new StringBuilder("link 1 100 0 0 9;house h 99999 0;program p copying h 0 999 3 0 30 9;");
        for (int p = 0; p < ratesAndYields.length; p += 2) {
            text.append("program q").append((char) ('a' + p)).append(" meek h 0 999 ").append(ratesAndYields[p])
                    .append(" 0 ").append(ratesAndYields[p + 1]).append(" 20;");
        }
        RefundShaper shaper = Texts.of(text.toString());
        shaper.run(1);
        Check.due("misses of the copying one", 1, shaper.program(0, 9));
        Check.due("yield of the copying one", due, shaper.program(0, 6));
    }

    private static void copying() {
        Check.sentence("the yield (as it is ahead of this learning of all programs) of the program that yielded the most units");
        copies(31, 100, 31);
        copies(39, 100, 30);
        copies(39, 100, 29);
        copies(100, 100, 100);
        copies(50, 100, 50, 10, 90);
        copies(90, 10, 50, 100, 90);
        Check.sentence("of several the one with the lowest number");
        copies(50, 20, 50, 10, 100);
        copies(100, 10, 100, 20, 50);
        copies(40, 25, 40, 20, 50, 10, 100);
        Check.sentence("if that is greater than its own; it grows by LEARN otherwise, also if no program yielded something");
        copies(39, 1, 99, 1, 99);
        copies(39, 100, 1);
        RefundShaper ahead = Texts.of("link 1 100 0 0 9;house h 99999 0;program a meek h 0 99 40 0 35 20;"
                + "program b copying h 0 99 3 0 30 9;program c meek h 0 99 3 0 30 20;");
        ahead.run(1);
        Check.due("a lower one that has learnt ahead of it", "75 35 70", Scenes.programs(ahead, 6));
    }

    private static void rates() {
        Check.sentence("its rate becomes the rate less a quarter of it (the quarter rounded down), but not less than FLOOR");
        int[][] dropped = {{0, 1, 1}, {0, 3, 3}, {0, 4, 3}, {0, 5, 4}, {0, 7, 6}, {0, 8, 6}, {0, 999, 750}, {749, 999, 750},
            {750, 999, 750}, {751, 999, 751}, {999, 999, 999}, {4, 4, 4}, {3, 4, 3}};
        for (int[] due : dropped) {
            RefundShaper shaper = home("1 100 0 0 0", "99999 0", due[0] + " 999 " + due[1] + " 9 0 0", "0 999 999 0 0 0");
            shaper.run(1);
            Check.due("rate " + due[1] + " from FLOOR " + due[0], due[2], shaper.program(0, 2));
        }
        Check.sentence("its rate becomes less by the units that it yielded, but not less than FLOOR");
        int[][] yielded = {{0, 10, 10, 9}, {0, 10, 50, 5}, {4, 10, 50, 5}, {5, 10, 50, 5}, {6, 10, 50, 6}, {10, 10, 50, 10},
            {0, 10, 100, 0}, {1, 10, 100, 1}, {0, 999, 100, 0}, {998, 999, 100, 998}};
        for (int[] due : yielded) {
            RefundShaper shaper = home("999 1 0 0 9", "99999 0", due[0] + " 999 " + due[1] + " 9 0 50");
            shaper.setYield(0, due[2]);
            shaper.run(1);
            Check.due("rate " + due[1] + " from FLOOR " + due[0], due[3], shaper.program(0, 2));
            Check.due("yield of one that yielded", due[2], shaper.program(0, 6));
        }
        Check.sentence("its rate grows by GAIN, but not above CEILING");
        int[][] grown = {{10, 5, 4, 9}, {9, 5, 4, 9}, {8, 5, 4, 8}, {5, 5, 4, 5}, {999, 5, 0, 5}, {999, 0, 99, 99},
            {999, 899, 99, 998}, {999, 900, 99, 999}, {999, 901, 99, 999}, {999, 999, 99, 999}};
        for (int[] due : grown) {
            for (int threshold : new int[] {1, 100}) {
                RefundShaper shaper = home("999 " + threshold + " 0 0 0", "99999 0",
                        "0 " + due[0] + " " + due[1] + " " + due[2] + " 0 0");
                shaper.run(1);
                Check.due("rate " + due[1] + " to CEILING " + due[0], due[3], shaper.program(0, 2));
            }
        }
        Check.due("also of one that is capped", 14, gainOf("1 0"));
        Check.due("also of one that is not paid for", 14, gainOf("99 0"));
    }

    private static int gainOf(String house) {
        RefundShaper shaper = home("99 100 1 0 0", house, "0 99 10 4 0 0");
        shaper.run(1);
        return shaper.program(0, 2);
    }

    private static void forgetting() {
        Check.sentence("if the slot is not warned, its yield becomes less by FORGET, but not less than BASE (a yield that is below BASE stays)");
        int[][] forgot = {{50, 9, 60, 51}, {50, 9, 59, 50}, {50, 9, 58, 50}, {50, 9, 51, 50}, {50, 9, 50, 50}, {50, 9, 49, 49},
            {50, 9, 0, 0}, {50, 0, 99, 99}, {50, 1, 51, 50}, {0, 9, 100, 91}, {0, 9, 8, 0}, {0, 9, 9, 0}, {0, 9, 10, 1},
            {100, 9, 100, 100}, {100, 9, 99, 99}};
        for (int[] due : forgot) {
            RefundShaper shaper = home("999 50 0 0 " + due[1], "99999 0", "0 999 5 0 " + due[0] + " 50");
            shaper.setYield(0, due[2]);
            shaper.run(1);
            Check.due("BASE " + due[0] + " FORGET " + due[1] + " yield " + due[2], due[3], shaper.program(0, 6));
        }
        RefundShaper warned = home("19 100 0 0 3", "99999 0", "20 20 20 0 0 0", "1 1 1 0 0 0");
        warned.setYield(0, 50);
        warned.setYield(1, 9);
        warned.run(1);
        Check.due("yields behind a warned slot", "50 9", Scenes.programs(warned, 6));
        warned.setLink(21, 100);
        warned.run(1);
        Check.due("yields behind a slot that is not warned", "47 6", Scenes.programs(warned, 6));
    }

    private static void misses() {
        Check.sentence("If units of it were dropped, its misses grow by 1");
        RefundShaper shaper = home("1 100 0 0 0", "99999 0", "9 9 9 0 0 0", "0 9 0 0 0 0");
        for (int misses = 1; misses <= 5; misses++) {
            shaper.run(1);
            Check.due("misses", misses + " 0", Scenes.programs(shaper, 9));
        }
        Check.sentence("Otherwise its misses become 0");
        shaper.setLink(9, 100);
        shaper.run(1);
        Check.due("misses", "0 0", Scenes.programs(shaper, 9));
        shaper.setLink(1, 100);
        shaper.run(2);
        Check.due("misses begin anew", "2 0", Scenes.programs(shaper, 9));
        Check.sentence("Otherwise, if it yielded something, its misses become 0");
        shaper.setYield(0, 89);
        shaper.run(1);
        after(shaper, "yielded", 3, "8 0");
        Check.due("misses", "0 0", Scenes.programs(shaper, 9));
        Check.sentence("If units of it were dropped");
        shaper.setYield(0, 50);
        shaper.run(1);
        after(shaper, "yielded and dropped", 3, "4 0");
        Check.due("misses", "1 0", Scenes.programs(shaper, 9));
    }

    private static void time() {
        Check.sentence("An hour is 12 slots, from a TIME that is divisible by 12 on");
        RefundShaper shaper = home("99 100 0 0 0", "999 0", "1 1 1 0 0 0");
        for (int time = 1; time <= 36; time++) {
            shaper.run(1);
            Check.due("TIME", time, shaper.size(7));
            Check.due("hours at " + time, time / 12, shaper.size(8));
            Check.due("delivered in the hour at " + time, time % 12, shaper.household(0, 3));
        }
        Check.due("hour 2", 12, shaper.hour(2, 0));
        Check.sentence("Lets slots go by");
        RefundShaper one = Texts.of(Scenes.full(40, 90, 2, 1, 3));
        RefundShaper each = Texts.of(Scenes.full(40, 90, 2, 1, 3));
        int dropped = 0;
        for (int slot = 0; slot < 150; slot++) {
            dropped += each.run(1);
        }
        Check.due("150 slots at once", dropped, one.run(150));
        Check.due("checksum", each.checksum(), one.checksum());
        Check.due("unfairest", each.unfairest(), one.unfairest());
        Check.sentence("All units offered are capped, unpaid, yielded, dropped or delivered");
        for (int h = 0; h < 6; h++) {
            one.setCap(h, 100);
        }
        one.setPrices(99, 1);
        one.run(100);
        for (int what = 1; what <= 5; what++) {
            Check.due("some of " + what + " in all", true, one.total(what) > 0);
        }
        for (int p = 0; p < 12; p++) {
            long others = 0;
            for (int what = 1; what <= 5; what++) {
                others += one.counted(p, what);
            }
            Check.due("offered by " + p, others, one.counted(p, 0));
        }
    }

    public static void main(String[] arguments) {
        caps();
        capsInTheHour();
        coins();
        off();
        warned();
        yields();
        refunds();
        excess();
        shares();
        yieldsBehindDrops();
        copying();
        rates();
        forgetting();
        misses();
        time();
        Check.end("SlotEdgesTest");
    }
}
