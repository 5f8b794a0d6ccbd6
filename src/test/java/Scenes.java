/** Texts that several tests use. */
final class Scenes {
    /**
     * Four programs, one of each kind, and too much for the link: worked by hand, slot by slot.
     *
     * <pre>
     * slot 1: offered 40 30 20 10, warned, yielded 0 9 0 1, sent 40 21 20 9, dropped 27 0 13 0
     *         rates 30 21 15 9, yields 40 30 0 10, misses 1 0 1 0
     * slot 2: offered 30 21 15 9, warned, yielded 12 6 0 0, sent 18 15 15 9, dropped 0 0 5 2
     *         rates 18 15 12 7, yields 40 30 10 40, misses 0 0 2 1
     * slot 3: offered 18 15 12 7, warned, yielded 7 4 1 2, sent 11 11 11 5, none dropped
     *         rates 11 11 11 5, misses 0 0 0 0
     * slot 4: offered 11 11 11 5, not warned, all delivered
     *         rates 16 15 13 6, yields 37 30 7 37
     * slot 5: offered 16 15 13 6, all CAPACITY but not warned, all delivered
     * </pre>
     */
    static final String FOUR = "link 50 100 2 1 3;house ha 1000 5000;house hb 200 600;"
            + "program ma meek ha 10 40 40 5 0 20;program st steady ha 10 60 30 4 30 15;"
            + "program su stubborn hb 5 50 20 2 0 10;program co copying hb 0 30 10 1 10 5;";

    private Scenes() {
    }

    /** One household that pays nothing and the given programs of it. */
    static RefundShaper free(int capacity, int threshold, int forget, String... programs) {
        StringBuilder text = new StringBuilder("link " + capacity + " " + threshold + " 0 0 " + forget
                + ";house h 99999 0;");
        for (String program : programs) {
            text.append("program ").append(program).append(';');
        }
        return Texts.of(text.toString());
    }

    /** As many households and programs as there can be, two programs in each household, and all kinds. */
    static String full(int capacity, int threshold, int price, int refund, int forget) {
        String[] kinds = {"meek", "steady", "stubborn", "copying"};
        StringBuilder text = new StringBuilder("link " + capacity + " " + threshold + " " + price + " " + refund + " "
                + forget + ";");
        for (int h = 0; h < 6; h++) {
            text.append("house h").append((char) ('a' + h)).append(" 999 ").append(9000 + h).append(';');
        }
        for (int p = 0; p < 12; p++) {
            text.append("program p").append((char) ('a' + p)).append(' ').append(kinds[p % 4]).append(" h")
                    .append((char) ('a' + p / 2)).append(" 1 40 ").append(p + 3).append(' ').append(p % 5).append(' ')
                    .append(p * 4).append(' ').append(p % 7).append(';');
        }
        return text.toString();
    }

    /** The numbers of all programs, with a space between. */
    static String programs(RefundShaper shaper, int what) {
        StringBuilder numbers = new StringBuilder();
        for (int p = 0; p < shaper.size(1); p++) {
            numbers.append(p > 0 ? " " : "").append(shaper.program(p, what));
        }
        return numbers.toString();
    }

    /** What happened to all programs in the latest slot, with a space between. */
    static String latest(RefundShaper shaper, int what) {
        StringBuilder numbers = new StringBuilder();
        for (int p = 0; p < shaper.size(1); p++) {
            numbers.append(p > 0 ? " " : "").append(shaper.latest(p, what));
        }
        return numbers.toString();
    }
}
