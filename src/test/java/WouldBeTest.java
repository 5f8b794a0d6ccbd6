/** Promises 19 to 25: dropsIn, deliveredIn, firstDrop, calmIn, bestThreshold, neededCapacity, culprit. */
final class WouldBeTest {
    private WouldBeTest() {
    }

    private static void promise19() {
        Check.sentence("Promise 19: dropsIn");
        RefundShaper shaper = Texts.of(Scenes.FOUR);
        int[] due = {0, 40, 47, 47, 47, 47};
        for (int slots = 0; slots < due.length; slots++) {
            Check.due("dropsIn " + slots, due[slots], shaper.dropsIn(slots));
        }
        RefundShaper fixed = Scenes.free(4, 100, 0, "p meek h 5 5 5 0 0 0");
        Check.due("dropsIn 200", 200, fixed.dropsIn(200));
        Check.due("dropsIn of none", 0, new RefundShaper().dropsIn(200));
        Check.due("dropsIn 0", 0, fixed.dropsIn(0));
    }

    /** Some of 5 units is dropped in each slot, two slots long in each hour, as the CAP lets no more through. */
    private static void hoursGoOn() {
        Check.sentence("A new hour begins: nothing of the CAPs is used in it");
        RefundShaper shaper = Texts.of("link 4 100 0 0 0;house h 12 0;program p meek h 5 5 5 0 0 0;");
        goesOn(shaper, 2, 3, 10, 14, 1, 3);
        shaper.run(2);
        goesOn(shaper, 2, 2, 10, 12, 11, 1);
        shaper.run(9);
        goesOn(shaper, 2, 2, 10, 10, 2, 4);
        shaper.run(1);
        goesOn(shaper, 2, 3, 10, 14, 1, 3);
    }

    private static void goesOn(RefundShaper shaper, int... due) {
        Check.due("dropsIn 12", due[0], shaper.dropsIn(12));
        Check.due("dropsIn 13", due[1], shaper.dropsIn(13));
        Check.due("deliveredIn 12", due[2], shaper.deliveredIn(0, 12));
        Check.due("deliveredIn 13", due[3], shaper.deliveredIn(0, 13));
        Check.due("firstDrop", due[4], shaper.firstDrop());
        Check.due("calmIn", due[5], shaper.calmIn());
    }

    /** The last 8 of all 512 calls are made at the greatest TIME there is. */
    private static void timeIsNotLimited() {
        Check.sentence("what would be: nothing changes, and the TIME is not limited");
        RefundShaper shaper = Texts.of("link 4 9 0 0 0;house h 99999 0;program p meek h 5 5 5 0 0 0;");
        for (int i = 0; i < 500; i++) {
            shaper.run(200);
        }
        Check.due("dropsIn", 200, shaper.dropsIn(200));
        Check.due("deliveredIn", 800, shaper.deliveredIn(0, 200));
        Check.due("firstDrop", 1, shaper.firstDrop());
        Check.due("calmIn", -1, shaper.calmIn());
        Check.due("bestThreshold", 100, shaper.bestThreshold(30));
        Check.due("neededCapacity", 5, shaper.neededCapacity(10));
        Check.due("culprit", 0, shaper.culprit(50));
        Check.due("TIME", 100000, shaper.size(7));
    }

    private static void promise20() {
        Check.sentence("Promise 20: deliveredIn");
        RefundShaper shaper = Texts.of(Scenes.FOUR);
        int[][] due = {{0, 13, 31, 42, 53}, {0, 21, 36, 47, 58}, {0, 7, 17, 28, 39}, {0, 9, 16, 21, 26}};
        for (int p = 0; p < 4; p++) {
            for (int slots = 0; slots < 5; slots++) {
                Check.due("deliveredIn " + p + " " + slots, due[p][slots], shaper.deliveredIn(p, slots));
            }
        }
        shaper.run(1);
        Check.due("deliveredIn is of the next slots alone", 18, shaper.deliveredIn(0, 1));
        RefundShaper fixed = Scenes.free(4, 100, 0, "p meek h 5 5 5 0 0 0");
        Check.due("deliveredIn 200", 800, fixed.deliveredIn(0, 200));
        fixed.run(1);
        Check.due("deliveredIn 0", 0, fixed.deliveredIn(0, 0));
        fixed.turn(0, false);
        Check.due("deliveredIn of one that is off", 0, fixed.deliveredIn(0, 200));
    }

    private static void promise21() {
        Check.sentence("Promise 21: firstDrop");
        Check.due("firstDrop of none", -1, new RefundShaper().firstDrop());
        Check.due("firstDrop at once", 1, Texts.of(Scenes.FOUR).firstDrop());
        Check.sentence("Returns behind how many slots, 1 to 200, the first one of them has dropped something; NONE if none has");
        // the rate is n - 1 in slot n
        String growing = "p steady h 0 999 0 1 0 0";
        Check.due("firstDrop", 11, Scenes.free(9, 100, 0, growing).firstDrop());
        Check.due("firstDrop", 200, Scenes.free(198, 100, 0, growing).firstDrop());
        Check.due("firstDrop", -1, Scenes.free(199, 100, 0, growing).firstDrop());
    }

    /** One unit is dropped in each slot for as long as the coins last, and each slot costs ten. */
    private static RefundShaper poor(int coins) {
        return Texts.of("link 9 100 1 0 0;house h 99999 " + coins + ";program p steady h 10 10 10 0 0 0;");
    }

    private static void promise22() {
        Check.sentence("Promise 22: calmIn");
        Check.due("calmIn of none", 1, new RefundShaper().calmIn());
        Check.due("calmIn", 3, Texts.of(Scenes.FOUR).calmIn());
        Check.due("calmIn at once", 1, poor(9).calmIn());
        Check.due("calmIn 2", 2, poor(10).calmIn());
        Check.due("calmIn 200", 200, poor(1990).calmIn());
        Check.due("calmIn 201", -1, poor(2000).calmIn());
        Check.due("calmIn never", -1, poor(99999).calmIn());
        // the rates are 8 6 7, 8 6 7, .. and 12 9 10 11, 12 9 10 11, ..
        Check.due("two calm slots are too few", -1, Scenes.free(7, 100, 0, "p steady h 0 8 8 1 0 0").calmIn());
        Check.due("three calm slots", 2, Scenes.free(11, 100, 0, "p steady h 0 12 12 1 0 0").calmIn());
        Check.sentence("Returns the number of the first of 3 slots, one behind the other, in which nothing would be dropped, counted from 1 for the next one, if it is at most 200");
        // 10 slots of each hour drop, 2 do not; slots 201 and 202, 200 and 201, or 199 and 200 are such two
        for (int slots = 2; slots <= 4; slots++) {
            RefundShaper two = Texts.of("link 4 100 0 0 0;house h 50 0;program p meek h 5 5 5 0 0 0;");
            two.run(slots);
            Check.due("calmIn of two behind " + slots, -1, two.calmIn());
        }
        // the rates are 9 7 6 6 ..
        Check.due("calmIn 3", 3, Scenes.free(6, 100, 0, "p steady h 0 9 9 0 0 0").calmIn());
    }

    private static void promise23() {
        Check.sentence("Promise 23: bestThreshold");
        // THRESHOLD 80 on: slot 1 not warned, slot 2 sends 18 of 24; below it sends 14 of 15
        RefundShaper shaper = Scenes.free(15, 100, 0, "a steady h 0 99 6 6 50 0", "b steady h 0 99 6 6 0 0");
        Check.due("dropsIn", 3, shaper.dropsIn(2));
        Check.due("bestThreshold 1", 100, shaper.bestThreshold(1));
        Check.due("bestThreshold 2", 79, shaper.bestThreshold(2));
        Check.due("THRESHOLD stays", 100, shaper.size(3));
        // a CAPACITY of 17 sends one more than it in slot 2, but not if 12 units warn in slot 1
        shaper.setLink(17, 100);
        Check.due("dropsIn", 1, shaper.dropsIn(2));
        Check.due("bestThreshold of 1 and 0", 70, shaper.bestThreshold(2));
        shaper.setLink(18, 100);
        Check.due("bestThreshold of 0", 100, shaper.bestThreshold(2));
        shaper.setLink(15, 100);
        RefundShaper low = Scenes.free(99, 1, 0, "a steady h 0 99 60 0 0 0");
        Check.due("bestThreshold of calm slots", 100, low.bestThreshold(30));
        Check.due("bestThreshold of none", 100, new RefundShaper().bestThreshold(30));
        Check.sentence("Returns the THRESHOLD by which the fewest units would be dropped in so many slots, of several the greatest one");
        // whatever the threshold is, the same is dropped
        RefundShaper fixed = Scenes.free(4, 7, 0, "p meek h 5 5 5 0 0 0");
        Check.due("bestThreshold of equal ones", 100, fixed.bestThreshold(30));
        // THRESHOLD 1 warns in slot 1, as 200 > 199: slot 2 sends 1 99 99 then, otherwise 51 99 99
        RefundShaper least = Scenes.free(199, 50, 0, "a steady h 0 999 2 99 50 0", "b steady h 0 99 0 99 0 0",
                "c steady h 0 99 0 99 0 0");
        Check.due("dropsIn with 50", 50, least.dropsIn(2));
        Check.due("bestThreshold 1 of 100", 1, least.bestThreshold(2));
        // with 200 no THRESHOLD from 1 on warns in slot 1
        least.setLink(200, 50);
        Check.due("bestThreshold has no 0", 100, least.bestThreshold(2));
    }

    private static RefundShaper spending(int threshold, int secondRate) {
        return Texts.of("link 50 " + threshold + " 1 1 0;house h 999 20;house g 999 99999;"
                + "program a steady h 0 20 20 0 50 0;program b steady g 0 " + secondRate + " 0 " + secondRate + " 0 0;");
    }

    private static void promise24() {
        Check.sentence("Promise 24: neededCapacity");
        RefundShaper shaper = Scenes.free(15, 100, 0, "a steady h 0 99 6 6 50 0", "b steady h 0 99 6 6 0 0");
        // a CAPACITY below 12 warns in slot 1: 9 are sent; 9 to 11 drop in slot 2: 14 are sent; up to 17: 18 are
        Check.due("neededCapacity 1", 9, shaper.neededCapacity(1));
        Check.due("neededCapacity 2", 18, shaper.neededCapacity(2));
        // 9 to 11 drop nothing, as they warn in slot 1; 12 to 18 drop in slot 2, as 19 are sent
        RefundShaper gap = Scenes.free(12, 100, 0, "a steady h 0 99 6 20 50 0", "b steady h 0 99 6 0 0 0");
        Check.due("dropsIn with 12", 7, gap.dropsIn(2));
        Check.due("neededCapacity below one that drops", 9, gap.neededCapacity(2));
        // 10 to 19 warn in slot 1, so a has coins left for slot 2: 27 are sent; from 20 on it has none: 22 are sent
        RefundShaper spent = spending(100, 22);
        Check.due("neededCapacity 1", 10, spent.neededCapacity(1));
        Check.due("neededCapacity above one that ends a warning", 22, spent.neededCapacity(2));
        Check.due("neededCapacity that ends a warning", 20, spending(100, 20).neededCapacity(2));
        Check.due("neededCapacity that ends a warning", 25, spending(80, 25).neededCapacity(2));
        Check.due("neededCapacity that ends a warning", 25, spending(81, 25).neededCapacity(2));
        Check.due("neededCapacity 2", 2, Scenes.free(9, 9, 0, "a meek h 2 2 2 0 0 0").neededCapacity(1));
        Check.due("neededCapacity of none", 1, new RefundShaper().neededCapacity(10));
        Check.due("neededCapacity of one unit", 1, Scenes.free(9, 9, 0, "a meek h 1 1 1 0 0 0").neededCapacity(10));
        Check.due("CAPACITY stays", 12, gap.size(2));
        // the rate is n - 1 in slot n
        RefundShaper growing = Scenes.free(9999, 100, 0, "p steady h 0 999 0 1 0 0");
        for (int slots = 1; slots <= 10; slots++) {
            Check.due("neededCapacity " + slots, Math.max(1, slots - 1), growing.neededCapacity(slots));
        }
        // whatever ends the warning of slot 1, slot 2 sends 5 units more than it
        for (int threshold = 1; threshold <= 100; threshold++) {
            for (int rate = 1; rate <= 12; rate++) {
                RefundShaper any = Scenes.free(9, threshold, 0, "p steady h 0 99 " + rate + " 5 0 0");
                Check.due("neededCapacity by THRESHOLD " + threshold, rate + 5, any.neededCapacity(2));
            }
        }
        // by THRESHOLD 1, 2 units warn up to 199: then a has its coins again for c, and slot 2 sends 202, otherwise 200
        RefundShaper least = Texts.of("link 50 1 1 1 0;house h 999 2;house g 999 9999;program a steady h 0 2 2 0 100 0;"
                + "program b steady g 0 99 0 99 0 0;program c steady h 0 2 0 2 0 0;"
                + "program d steady g 0 99 0 99 0 0;program e steady g 0 2 0 2 0 0;");
        Check.due("neededCapacity that ends a warning by THRESHOLD 1", 200, least.neededCapacity(2));
        Check.sentence("Returns the least CAPACITY by which nothing would be dropped in so many slots; NONE if there is none from 1 to 9999");
        StringBuilder text = new StringBuilder("link 1 100 0 0 0;house h 99999 0;");
        for (char c = 'a'; c < 'k'; c++) {
            text.append("program ").append(c).append(" meek h 0 999 999 0 0 0;");
        }
        RefundShaper many = Texts.of(text + "program k meek h 0 20 9 0 0 0;");
        Check.due("neededCapacity 9999", 9999, many.neededCapacity(1));
        Check.due("neededCapacity 9999", 9999, many.neededCapacity(10));
        many.setRate(10, 10);
        Check.due("neededCapacity 10000", -1, many.neededCapacity(1));
    }

    private static void promise25() {
        Check.sentence("Promise 25: culprit");
        RefundShaper shaper = Scenes.free(10, 100, 0, "a meek h 0 99 5 0 0 0", "b meek h 0 99 8 0 0 0",
                "c meek h 0 99 8 0 0 0", "d meek h 0 99 9 0 0 0");
        Check.due("culprit", 3, shaper.culprit(1));
        shaper.turn(3, false);
        Check.due("culprit of equal ones, not one that is off", 1, shaper.culprit(1));
        Check.due("it stays on", 1, shaper.program(1, 10));
        shaper.setRate(0, 9);
        Check.due("culprit 0", 0, shaper.culprit(1));
        shaper.setLink(25, 100);
        Check.due("culprit of no drops", -1, shaper.culprit(50));
        Check.due("culprit of none", -1, new RefundShaper().culprit(1));
        Check.sentence("Returns the program without which (if it was turned off now, of those that are on) the fewest units would be dropped in so many slots, of several the lowest one; NONE if they would not become fewer by any");
        String[] programs = new String[12];
        for (int p = 0; p < 12; p++) {
            programs[p] = (char) ('a' + p) + " meek h 0 99 " + (p + 3) + " 0 0 0";
        }
        // the rates are 3 to 14, 102 in all
        RefundShaper full = Scenes.free(95, 100, 0, programs);
        Check.due("dropsIn", 7, full.dropsIn(1));
        Check.due("culprit of all that are not needed", 4, full.culprit(1));
        full.setLink(90, 100);
        full.setRate(11, 15);
        Check.due("culprit", 10, full.culprit(1));
        full.setLink(88, 100);
        Check.due("culprit", 11, full.culprit(1));
        RefundShaper growing = Scenes.free(48, 100, 0, "p steady h 0 999 0 1 0 0");
        Check.due("culprit in 49 slots", -1, growing.culprit(49));
        Check.due("culprit in 50 slots, in the last one 49 of 48 are sent", 0, growing.culprit(50));
        RefundShaper single = Scenes.free(10, 100, 0, "a meek h 0 99 0 0 0 0", "b meek h 0 99 10 0 0 0",
                "c meek h 0 99 1 0 0 0");
        Check.due("culprit of one unit", 1, single.culprit(1));
        single.turn(1, false);
        Check.due("culprit of none", -1, single.culprit(1));
        single.setRate(2, 12);
        Check.due("culprit that is the last one", 2, single.culprit(1));
        single.turn(2, false);
        single.turn(0, false);
        Check.due("culprit when all are off", -1, single.culprit(1));
        // without the first one the second one sends as much
        RefundShaper shared = Texts.of("link 9 100 0 0 0;house h 20 0;program a meek h 20 20 20 0 0 0;"
                + "program b meek h 20 20 20 0 0 0;");
        Check.due("dropsIn", 11, shared.dropsIn(1));
        Check.due("culprit without which nothing is better", -1, shared.culprit(1));
    }

    public static void main(String[] arguments) {
        promise19();
        hoursGoOn();
        timeIsNotLimited();
        promise20();
        promise21();
        promise22();
        promise23();
        promise24();
        promise25();
        Check.end("WouldBeTest");
    }
}
