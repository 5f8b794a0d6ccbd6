/** Promise 26, run, and what happens in a slot: the steps (1) to (6) of the document. */
final class SlotTest {
    private SlotTest() {
    }

    private static void promise26() {
        Check.sentence("Promise 26: run");
        RefundShaper shaper = Texts.of(Scenes.FOUR);
        Check.due("run 1", 40, shaper.run(1));
        Check.due("run 2", 7, shaper.run(2));
        Check.due("run 1", 0, shaper.run(1));
        Check.due("time", 4, shaper.size(7));
        Check.due("run as one", 47, Texts.of(Scenes.FOUR).run(4));
        Check.due("run of none", 0, new RefundShaper().run(200));
        lastTime();
    }

    private static RefundShaper at99800() {
        RefundShaper shaper = new RefundShaper();
        for (int i = 0; i < 499; i++) {
            shaper.run(200);
        }
        return shaper;
    }

    /** The few calls that are left of 512 at the greatest TIME. */
    private static void lastTime() {
        Check.sentence("1 to 200, the TIME not more than 100000 then");
        RefundShaper whole = at99800();
        Check.due("run to 100000 by 200", 0, whole.run(200));
        Check.sentence("TIME is the number of slots that went by (0 at first, at most 100000)");
        Check.due("TIME at first", 0, new RefundShaper().size(7));
        Check.due("TIME", 100000, whole.size(7));
        Check.dueThrow("run to 100001", IllegalArgumentException.class, () -> whole.run(1));
        Check.dueThrow("run to 100200", IllegalArgumentException.class, () -> whole.run(200));
        Check.due("TIME", 100000, whole.size(7));
        Check.due("hours", 24, whole.size(8));
        Check.due("fairness of the last hour", 1.0, whole.fairness(8332));
        RefundShaper parts = at99800();
        parts.run(1);
        long checksum = parts.checksum();
        Check.dueThrow("run to 100001 by 200", IllegalArgumentException.class, () -> parts.run(200));
        Check.due("checksum behind it", checksum, parts.checksum());
        Check.due("undos behind it", 8, parts.size(9));
        Check.due("run to 100000 by 199", 0, parts.run(199));
        Check.dueThrow("run to 100001 by 1", IllegalArgumentException.class, () -> parts.run(1));
        Check.due("undo of the run to 100000", 7, parts.undo());
        Check.due("checksum behind undo", checksum, parts.checksum());
        RefundShaper last = at99800();
        last.run(199);
        Check.dueThrow("run to 100001 by 2", IllegalArgumentException.class, () -> last.run(2));
        Check.due("run to 100000 by 1", 0, last.run(1));
        Check.due("TIME", 100000, last.size(7));
    }

    private static void fourKinds() {
        RefundShaper shaper = Texts.of(Scenes.FOUR);
        shaper.run(1);
        state(shaper, "30 21 15 9", "40 30 0 10", "1 0 1 0");
        Check.due("balance", 4869, shaper.household(0, 1));
        Check.due("balance", 541, shaper.household(1, 1));
        shaper.run(1);
        state(shaper, "18 15 12 7", "40 30 10 40", "0 0 2 1");
        Check.due("balance", 4785, shaper.household(0, 1));
        Check.due("balance", 493, shaper.household(1, 1));
        Check.due("used", 121, shaper.household(0, 2));
        Check.due("delivered", 67, shaper.household(0, 3));
        shaper.run(1);
        state(shaper, "11 11 11 5", "40 30 10 40", "0 0 0 0");
        shaper.run(1);
        state(shaper, "16 15 13 6", "37 30 7 37", "0 0 0 0");
        shaper.run(1);
        state(shaper, "21 19 15 7", "34 30 4 34", "0 0 0 0");
    }

    private static void state(RefundShaper shaper, String rates, String yields, String misses) {
        Check.due("rates", rates, Scenes.programs(shaper, 2));
        Check.due("yields", yields, Scenes.programs(shaper, 6));
        Check.due("misses", misses, Scenes.programs(shaper, 9));
    }

    /** (1): the CAP counts what was admitted ahead in the slot, the balance is what is left as it is now. */
    private static void admission() {
        RefundShaper shaper = Texts.of("link 999 99 3 2 0;house h 25 61;house g 99 99999;"
                + "program a meek h 10 10 10 0 0 0;program b meek g 10 10 10 0 0 0;"
                + "program c meek h 20 20 20 0 0 0;program d meek h 5 5 5 0 0 0;");
        shaper.run(1);
        // d is within the CAP, as the unpaid units of c use nothing of it
        Check.due("capped", "0 0 5 0", Scenes.latest(shaper, 1));
        Check.due("unpaid", "0 0 5 5", Scenes.latest(shaper, 2));
        Check.due("delivered", "10 10 10 0", Scenes.latest(shaper, 5));
        Check.due("used", 20, shaper.household(0, 2));
        Check.due("balance", 1, shaper.household(0, 1));
        shaper.topUp(0, 100);
        shaper.turn(0, false);
        shaper.run(1);
        Check.due("offered", "0 10 20 5", Scenes.latest(shaper, 0));
        Check.due("capped", "0 0 15 5", Scenes.latest(shaper, 1));
        shaper.setCap(0, 20);
        shaper.run(1);
        Check.due("capped below what is used", "0 0 20 5", Scenes.latest(shaper, 1));
        shaper.setCap(0, 40);
        shaper.setPrices(0, 0);
        shaper.topUp(1, 1);
        shaper.run(1);
        Check.due("capped", "0 0 5 5", Scenes.latest(shaper, 1));
        Check.due("unpaid for nothing", "0 0 0 0", Scenes.latest(shaper, 2));
        shaper.run(8);
        Check.due("used in a new hour", 0, shaper.household(0, 2));
        shaper.run(1);
        Check.due("capped in a new hour", "0 0 0 0", Scenes.latest(shaper, 1));
        Check.due("used in a new hour", 25, shaper.household(0, 2));
    }

    /** (3): refunds come behind all payments, so they pay for nothing in this slot. */
    private static void refunds() {
        RefundShaper shaper = Texts.of("link 10 1 2 2 0;house h 999 20;"
                + "program a steady h 10 10 10 0 50 0;program b steady h 10 10 10 0 99 0;");
        shaper.run(1);
        Check.due("unpaid", "0 10", Scenes.latest(shaper, 2));
        Check.due("yielded", "5 0", Scenes.latest(shaper, 3));
        Check.due("balance", 10, shaper.household(0, 1));
        shaper.run(1);
        Check.due("unpaid", "5 10", Scenes.latest(shaper, 2));
        Check.due("yielded is rounded down", "2 0", Scenes.latest(shaper, 3));
        Check.due("balance", 4, shaper.household(0, 1));
        Check.due("used", 15, shaper.household(0, 2));
        Check.due("refunded", 14, shaper.counted(0, 7));
    }

    /** (2): warned is what is more than the threshold, nothing is yielded otherwise. */
    private static void warning() {
        RefundShaper shaper = Scenes.free(20, 50, 0, "a steady h 10 10 10 0 50 0");
        shaper.run(1);
        Check.due("warned at the threshold", false, shaper.isWarned());
        Check.due("yielded", "0", Scenes.latest(shaper, 3));
        shaper.setLink(20, 49);
        shaper.run(1);
        Check.due("warned above the threshold", true, shaper.isWarned());
        Check.due("yielded", "5", Scenes.latest(shaper, 3));
    }

    /** (4): those that yielded nothing come first, then the others; leftovers by number, programs without units not. */
    private static void dropping() {
        RefundShaper all = Scenes.free(20, 10, 0, "a steady h 0 99 20 0 50 0", "b steady h 0 99 5 0 0 0",
                "c steady h 0 99 30 0 50 0", "d steady h 0 99 4 0 10 0");
        // sent 10 5 15 4, the excess is 14: 9 of b and d, 5 of a and c: 2 and 3
        all.run(1);
        Check.due("dropped", "2 5 3 4", Scenes.latest(all, 4));
        RefundShaper exact = Scenes.free(25, 10, 0, "a steady h 0 99 20 0 50 0", "b steady h 0 99 5 0 0 0",
                "c steady h 0 99 30 0 50 0", "d steady h 0 99 4 0 10 0");
        exact.run(1);
        Check.due("dropped", "0 5 0 4", Scenes.latest(exact, 4));
        RefundShaper left = Scenes.free(9, 100, 0, "a steady h 0 9 0 0 0 0", "b steady h 0 9 3 0 0 0",
                "c steady h 0 9 3 0 0 0", "d steady h 0 9 3 0 0 0", "e steady h 0 9 2 0 0 0");
        // sent 0 3 3 3 2, the excess is 2: none each by the quotient, one each of b and c
        left.run(1);
        Check.due("dropped", "0 1 1 0 0", Scenes.latest(left, 4));
        RefundShaper more = Scenes.free(3, 100, 0, "a steady h 0 9 1 0 0 0", "b steady h 0 9 1 0 0 0",
                "c steady h 0 9 9 0 0 0");
        // the excess is 8 of 11: quotients 0 0 6, one more each of a and b
        more.run(1);
        Check.due("dropped", "1 1 6", Scenes.latest(more, 4));
        RefundShaper yielders = Scenes.free(7, 100, 0, "a steady h 0 9 4 0 50 0", "b steady h 0 9 6 0 50 0",
                "c steady h 0 9 9 0 50 0");
        // sent 2 3 5, the excess is 3: quotients 0 0 1, one more each of a and b
        yielders.run(1);
        Check.due("dropped", "1 1 1", Scenes.latest(yielders, 4));
        Check.due("run", 3, yielders.total(4));
        RefundShaper one = Scenes.free(5, 100, 0, "a steady h 0 9 1 0 0 0", "b steady h 0 9 6 0 25 0");
        // sent 1 5, the excess is 1
        Check.due("run", 1, one.run(1));
        Check.due("dropped", "1 0", Scenes.latest(one, 4));
        Check.due("dropping slots", 1, one.size(12));
        RefundShaper fits = Scenes.free(7, 100, 0, "a steady h 0 9 7 0 0 0");
        Check.due("as many as the CAPACITY", 0, fits.run(1));
        Check.due("dropping slots", 0, fits.size(12));
    }

    /** (5): the bounds of what is learnt. */
    private static void learning() {
        // all are dropped: rates less a quarter, not below FLOOR; yields not above 100
        RefundShaper dropped = Scenes.free(1, 100, 9, "a meek h 0 99 7 9 0 49", "b steady h 0 99 3 9 0 50",
                "c stubborn h 0 99 9 9 0 50", "d copying h 8 99 9 9 0 50", "e meek h 9 99 9 9 0 50");
        dropped.run(1);
        state(dropped, "6 3 7 8 9", "98 50 0 50 100", "1 1 1 1 1");
        // a copying one takes over a greater yield, of the lowest of those that yielded the most
        RefundShaper copying = Scenes.free(10, 100, 9, "a steady h 0 99 20 0 20 0", "b steady h 0 99 10 0 40 0",
                "c copying h 0 99 20 0 3 7", "d copying h 0 99 20 0 3 9");
        copying.setYield(2, 0);
        copying.setYield(3, 0);
        copying.run(1);
        Check.due("yielded", "4 4 0 0", Scenes.latest(copying, 3));
        Check.due("dropped", "9 3 20 20", Scenes.latest(copying, 4));
        Check.due("yields", "20 40 20 20", Scenes.programs(copying, 6));
        RefundShaper single = Scenes.free(1, 100, 9, "a steady h 0 99 2 0 50 0", "b copying h 0 99 9 0 3 7");
        single.run(1);
        Check.due("yielded", "1 0", Scenes.latest(single, 3));
        Check.due("yields", "50 50", Scenes.programs(single, 6));
        // its own one is as great or greater: it grows by LEARN; the one to copy may be itself
        RefundShaper own = Scenes.free(1, 100, 9, "a copying h 0 99 40 0 30 9", "b copying h 0 99 20 0 30 8",
                "c copying h 0 99 10 0 31 7", "d copying h 0 99 10 0 29 6", "e copying h 0 99 10 0 70 50");
        own.run(1);
        Check.due("yielded", "12 6 3 2 7", Scenes.latest(own, 3));
        Check.due("yields", "39 38 38 30 100", Scenes.programs(own, 6));
        // yielded, not dropped: less by the yielded units, not below FLOOR; misses are over
        RefundShaper yielded = Scenes.free(20, 50, 9, "a steady h 0 99 20 9 0 30", "b steady h 15 99 15 9 0 30");
        yielded.run(1);
        state(yielded, "15 15", "30 30", "1 1");
        yielded.setLink(99, 1);
        yielded.run(1);
        state(yielded, "11 15", "30 30", "0 0");
        // neither: grows by GAIN, not above CEILING; forgets in slots that are not warned, not below BASE
        yielded.setLink(99, 99);
        yielded.run(1);
        state(yielded, "20 24", "21 21", "0 0");
        yielded.setYield(0, 0);
        yielded.setLink(44, 99);
        yielded.run(1);
        state(yielded, "29 19", "0 21", "0 0");
        yielded.setLink(9999, 99);
        yielded.run(9);
        state(yielded, "99 99", "0 0", "0 0");
        // an odd count of misses leaves a stubborn one as it is, an even one not; a slot without drops ends it
        RefundShaper stubborn = Scenes.free(1, 100, 0, "a stubborn h 5 5 5 0 0 10");
        int[] due = {0, 10, 10, 20, 20, 30};
        for (int yield : due) {
            stubborn.run(1);
            Check.due("yield of a stubborn one", yield, stubborn.program(0, 6));
        }
        stubborn.setLink(5, 100);
        stubborn.run(1);
        Check.due("misses behind a slot without drops", 0, stubborn.program(0, 9));
        base();
    }

    private static void base() {
        RefundShaper shaper = Scenes.free(99, 99, 9, "a steady h 5 5 5 0 50 10", "b steady h 5 5 5 0 50 10",
                "c steady h 5 5 5 0 50 10", "d steady h 5 5 5 0 50 10", "e steady h 5 5 5 0 0 10");
        shaper.setYield(0, 70);
        shaper.setYield(1, 55);
        shaper.setYield(2, 30);
        shaper.setYield(3, 49);
        shaper.setYield(4, 99);
        shaper.turn(4, false);
        shaper.run(1);
        Check.due("yields forgotten", "61 50 30 49 99", Scenes.programs(shaper, 6));
        Check.due("BASE", "50 50 50 50 0", Scenes.programs(shaper, 8));
        shaper.setLink(99, 1);
        for (int p = 0; p < 5; p++) {
            shaper.setYield(p, 15);
        }
        shaper.run(1);
        Check.due("warned, nothing yielded", "0 0 0 0 0", Scenes.latest(shaper, 3));
        Check.due("yields kept in a warned slot", "15 15 15 15 15", Scenes.programs(shaper, 6));
    }

    /** Programs that are off learn nothing. */
    private static void off() {
        RefundShaper shaper = Scenes.free(4, 100, 9, "a meek h 0 9 5 2 0 10", "b meek h 0 9 5 2 0 10");
        shaper.run(1);
        state(shaper, "4 4", "20 20", "1 1");
        shaper.turn(0, false);
        shaper.run(1);
        state(shaper, "4 6", "20 11", "1 0");
        Check.due("offered", "0 4", Scenes.latest(shaper, 0));
    }

    public static void main(String[] arguments) {
        promise26();
        fourKinds();
        admission();
        refunds();
        warning();
        dropping();
        learning();
        off();
        Check.end("SlotTest");
    }
}
