/** Promises 1 to 3: a new object, append, parse, and the grammar of the texts. */
final class TextsTest {
    private static final String LINK = "link 9 9 9 9 9;";
    private static final String HOME = LINK + "house h 9 9;";
    private static final String ONE = HOME + "program p meek h 1 9 5 0 0 0;";

    private TextsTest() {
    }

    private static void promise1() {
        RefundShaper shaper = new RefundShaper();
        int[] due = {0, 0, 100, 80, 1, 1, 1, 0, 0, 0, 0, 0, 0};
        for (int what = 0; what < due.length; what++) {
            Check.due("new size " + what, due[what], shaper.size(what));
        }
        Check.due("new reportByte", -1, shaper.reportByte(0));
        Check.due("new undo", -1, shaper.undo());
        Check.due("new isWarned", false, shaper.isWarned());
        Check.dueThrow("new restore", IllegalStateException.class, () -> shaper.restoreSnapshot(0));
        Check.due("new checksum", Texts.of("link 100 80 1 1 1;").checksum(), shaper.checksum());
    }

    private static void promise2() {
        RefundShaper shaper = new RefundShaper();
        for (int many = 1; many <= 35; many++) {
            Check.due("append " + many, 20 * many, shaper.append(-1, Integer.MIN_VALUE, 0, 1, Integer.MAX_VALUE));
        }
        Check.due("append to a full buffer", -1, shaper.append(0, 0, 0, 0, 0));
        Check.due("length of a full buffer", 700, shaper.size(10));
        Check.due("parse 255", -3, shaper.parse(700));
        Check.due("length behind parse", 0, shaper.size(10));
        // "link 12 34 5 4 3;" in order: each argument, its most significant byte first
        Check.due("append text", 20, shaper.append(0x6c696e6b, 0x20313220, 0x33342035, 0x20342033, 0x3b000000));
        Check.due("parse appended", 0, shaper.parse(17));
        Check.due("CAPACITY", 12, shaper.size(2));
        Check.due("THRESHOLD", 34, shaper.size(3));
        Check.due("PRICE", 5, shaper.size(4));
        Check.due("REFUND", 4, shaper.size(5));
        Check.due("FORGET", 3, shaper.size(6));
        shaper.append(0x6c696e6b, 0xff000000, 0, 0, 0);
        Check.due("a byte above 127", -2 - (8 * 4 + 1), shaper.parse(20));
        shaper.append(0x6c696e6b, 0x20390000, 0, 0, 0);
        shaper.append(0x39393939, 0, 0, 0, 0);
        Check.due("two appends", -2 - (8 * 6 + 1), shaper.parse(40));
    }

    private static void parseReplaces() {
        RefundShaper shaper = Texts.of(Scenes.FOUR);
        shaper.run(1);
        shaper.report();
        shaper.saveSnapshot(0);
        shaper.saveSnapshot(1);
        Check.due("parse", 1, Texts.parse(shaper, ONE));
        Check.due("households", 1, shaper.size(0));
        int[] due = {1, 1, 9, 9, 9, 9, 9, 0, 0, 0, 0, 0, 0};
        for (int what = 0; what < due.length; what++) {
            Check.due("parsed size " + what, due[what], shaper.size(what));
        }
        Check.due("undo behind parse", -1, shaper.undo());
        Check.dueThrow("snapshot 0 behind parse", IllegalStateException.class, () -> shaper.restoreSnapshot(0));
        Check.dueThrow("snapshot 1 behind parse", IllegalStateException.class, () -> shaper.restoreSnapshot(1));
        Check.due("no snapshot behind parse", false, shaper.saveSnapshot(0));
        Check.due("report behind parse", 'm', shaper.reportByte(0));
        Check.due("warned behind parse", false, shaper.isWarned());
        Check.due("latest behind parse", -1, shaper.latest(0, 0));
        for (int what = 0; what < 8; what++) {
            Check.due("counted behind parse", 0, shaper.counted(0, what));
        }
        Check.due("used behind parse", 0, shaper.household(0, 2));
        Check.due("delivered behind parse", 0, shaper.household(0, 3));
        Check.due("misses behind parse", 0, shaper.program(0, 9));
        Check.due("checksum behind parse", Texts.of(ONE).checksum(), shaper.checksum());
        Texts.parse(shaper, ONE + "off p;");
        Check.due("off", 0, shaper.program(0, 10));
        Texts.parse(shaper, ONE);
        Check.due("on again in another text", 1, shaper.program(0, 10));
    }

    /** The bytes behind those that are parsed do not count. */
    private static void parsesFirstBytes() {
        RefundShaper shaper = new RefundShaper();
        Texts.append(shaper, "link 9 9 9 9 99;");
        Check.due("parse behind a digit", -2 - (8 * 14 + 1), shaper.parse(14));
        Texts.append(shaper, "link 9 9 9 9  9;");
        Check.due("parse behind a blank", -2 - (8 * 13 + 1), shaper.parse(13));
        Texts.append(shaper, "link 9 9 9 9 9;;");
        Check.due("parse behind a semicolon", 0, shaper.parse(15));
        Texts.append(shaper, "links");
        Check.due("parse in a word", -2 - (8 * 4 + 1), shaper.parse(4));
        Texts.append(shaper, "link 9 9 9 9 9;house abcdefghi 9 9;");
        Check.due("parse in a long word", -2 - (8 * 29 + 1), shaper.parse(29));
        Texts.append(shaper, "link 9 9 9 9 9;house h 99999 999999;");
        Check.due("parse in a long number", -2 - (8 * 34 + 1), shaper.parse(34));
        Texts.append(shaper, ONE);
        Check.due("parse of less than all", 0, shaper.parse(HOME.length()));
        Check.due("households", 1, shaper.size(0));
    }

    private static void errorChangesNothing() {
        RefundShaper shaper = Texts.of(Scenes.FOUR);
        shaper.run(2);
        shaper.report();
        shaper.saveSnapshot(1);
        long checksum = shaper.checksum();
        Check.due("error", -2 - (8 * ONE.length() + 1), Texts.parse(shaper, ONE + "x"));
        Check.due("buffer behind error", 0, shaper.size(10));
        Check.due("checksum behind error", checksum, shaper.checksum());
        Check.due("undos behind error", 1, shaper.size(9));
        Check.due("name behind error", 13, shaper.letter(false, 0, 0));
        Check.due("report behind error", 'm', shaper.reportByte(0));
        Check.due("undo behind error", 0, shaper.undo());
        Check.due("snapshot behind error", 2, shaper.restoreSnapshot(1));
    }

    private static void bytesOutOfRange() {
        RefundShaper shaper = new RefundShaper();
        Check.dueThrow("parse(-1)", IllegalArgumentException.class, () -> shaper.parse(-1));
        Check.dueThrow("parse(1) of nothing", IllegalArgumentException.class, () -> shaper.parse(1));
        Texts.append(shaper, LINK);
        Check.dueThrow("parse(21)", IllegalArgumentException.class, () -> shaper.parse(21));
        Check.dueThrow("parse(least)", IllegalArgumentException.class, () -> shaper.parse(Integer.MIN_VALUE));
        Check.dueThrow("parse(greatest)", IllegalArgumentException.class, () -> shaper.parse(Integer.MAX_VALUE));
        Check.due("buffer behind an exception", 20, shaper.size(10));
        Check.due("CAPACITY behind an exception", 100, shaper.size(2));
        Check.due("parse(15)", 0, shaper.parse(15));
        Check.due("CAPACITY", 9, shaper.size(2));
        Check.due("parse(0)", -3, shaper.parse(0));
    }

    private static void fine(String text, int programs) {
        Check.due(text, programs, Texts.parse(new RefundShaper(), text));
    }

    private static void error(String text, int offset, int code) {
        Check.due(text, -2 - (8 * offset + code), Texts.parse(new RefundShaper(), text));
    }

    /** The error is at the last token of the text, so the offset is where the token before ends. */
    private static void errorAt(String ahead, String token, int code) {
        error(ahead + token, ahead.length(), code);
        error(ahead + token + " ;", ahead.length(), code);
    }

    private static void tokens() {
        fine("link9 9 9 9 9;", 0);
        fine(" \n link\n9\n9 9  9 9 ;\n", 0);
        fine("link 00009 00009 00009 00009 00009;", 0);
        errorAt("link ", "000009", 1);
        errorAt("link ", "123456", 1);
        errorAt("link ", "-1", 1);
        errorAt("link ", "\t9", 1);
        errorAt("link ", "\r9", 1);
        errorAt("link ", "x", 1);
        errorAt("link 9", "x", 1);
        errorAt("link ", ";", 1);
        errorAt("", "Link", 1);
        errorAt("", "lin", 1);
        errorAt("", "links", 1);
        errorAt("", "linkk", 1);
        errorAt("", "linklinkl", 1);
        errorAt("", "7", 1);
        errorAt("", "house", 1);
        errorAt("", ";", 1);
        errorAt("  \n", "{", 1);
        errorAt("  \n", "`", 1);
        errorAt("link 9 9 9 9 9", "/", 1);
        errorAt("link 9 9 9 9 9", ":", 1);
        errorAt("link 9 9 9 9 9 ", "9", 1);
        errorAt(LINK, "link", 1);
        errorAt(LINK, ";", 1);
        errorAt(LINK, "7", 1);
        errorAt(LINK, "houses", 1);
        errorAt(LINK, "programs", 1);
        errorAt(LINK, "of", 1);
        errorAt(LINK + "house ", "abcdefghi", 1);
        errorAt(LINK + "house ", "7", 1);
        errorAt(LINK + "house ", ";", 1);
        errorAt(HOME + "program ", "abcdefghi", 1);
        errorAt(HOME + "program p ", "mild", 1);
        errorAt(HOME + "program p ", "house", 1);
        errorAt(HOME + "program p meek ", "7", 1);
        errorAt(HOME + "program p meek h 1 9 5 0 0 0 ", "0", 1);
        errorAt(HOME + "program p meek h 1 9 5 0 0 ", ";", 1);
        errorAt(ONE + "off ", "7", 1);
        errorAt(ONE + "off p ", "p", 1);
    }

    private static void ends() {
        error("", 0, 1);
        error("  ", 2, 1);
        error("link", 4, 1);
        error("link 9 9 9 9 9", 14, 1);
        error("link 9 9 9 9 9 \n", 16, 1);
        error(LINK + "house", 20, 1);
        error(LINK + "house h 9 9", 26, 1);
        error(LINK + "off", 18, 1);
        error(ONE.substring(0, ONE.length() - 1), ONE.length() - 1, 1);
        fine(LINK, 0);
        fine(HOME, 0);
        fine(ONE, 1);
    }

    private static void numbers() {
        range("link ", 1, 9999, " 9 9 9 9;");
        range("link 9 ", 1, 100, " 9 9 9;");
        range("link 9 9 ", 0, 99, " 0 9;");
        range("link 9 9 7 ", 0, 7, " 9;");
        range("link 9 9 7 7 ", 0, 9, ";");
        range(LINK + "house h ", 1, 99999, " 9;");
        range(LINK + "house h 9 ", 0, 99999, ";");
        String program = HOME + "program p meek h ";
        range(program, 0, 999, " 999 999 0 0 0;");
        range(program + "7 ", 7, 999, " 7 0 0 0;");
        range(program + "7 70 ", 7, 70, " 0 0 0;");
        range(program + "7 70 7 ", 0, 99, " 0 0;");
        range(program + "7 70 7 9 ", 0, 100, " 0;");
        range(program + "7 70 7 9 9 ", 0, 50, ";");
    }

    private static void range(String ahead, int least, int most, String behind) {
        fine(ahead + least + behind, ahead.contains("program") ? 1 : 0);
        fine(ahead + most + behind, ahead.contains("program") ? 1 : 0);
        error(ahead + (most + 1) + behind, ahead.length(), most == 99999 ? 1 : 2);
        if (least > 0) {
            error(ahead + (least - 1) + behind, ahead.length(), 2);
        }
    }

    private static void names() {
        fine(LINK + "house link 9 9;house house 9 9;house off 9 9;program off meek link 0 0 0 0 0 0;"
                + "program meek copying off 0 0 0 0 0 0;off off;off meek;", 2);
        fine(HOME + "program h meek h 0 0 0 0 0 0;", 1);
        fine(LINK + "house abcdefgh 9 9;house abcdefg 9 9;house abcdefgi 9 9;", 0);
        errorAt(HOME + "house ", "h", 3);
        errorAt(LINK + "house abcdefgh 9 9;house ", "abcdefgh", 3);
        errorAt(ONE + "program ", "p", 3);
        errorAt(LINK + "program p meek ", "h", 4);
        errorAt(HOME + "program p meek ", "p", 4);
        errorAt(ONE + "program q meek ", "hh", 4);
        errorAt(ONE + "off ", "q", 4);
        errorAt(ONE + "off ", "h", 4);
        errorAt(ONE + "off p;off ", "p", 3);
        errorAt(HOME + "off ", "p", 4);
        error(HOME + "off p;program p meek h 1 9 5 0 0 0;", HOME.length() + 4, 4);
        error(LINK + "program p meek h 1 9 5 0 0 0;house h 9 9;", LINK.length() + 15, 4);
    }

    private static void limits() {
        StringBuilder text = new StringBuilder(LINK);
        for (char c = 'a'; c < 'g'; c++) {
            text.append("house ").append(c).append(" 9 9;");
        }
        fine(text.toString(), 0);
        error(text + "house g 9 9;", text.length(), 5);
        error(text + "house a 9 9;", text.length(), 5);
        error(text + "house", text.length(), 5);
        for (char c = 'a'; c < 'm'; c++) {
            text.append("program ").append(c).append(" meek a 0 0 0 0 0 0;");
        }
        fine(text.toString(), 12);
        error(text + "program m meek a 0 0 0 0 0 0;", text.length(), 5);
        error(text + "program a", text.length(), 5);
        fine(text + "off l;", 12);
        error(text + "off m;", text.length() + 4, 4);
    }

    private static void firstError() {
        error("link 0 0 0 0 0;", 5, 2);
        error("link 9 9 9 9 9;house h 0 x", 23, 2);
        error(HOME + "house h 0 9;#", HOME.length() + 6, 3);
        error(HOME + "program p meek x 5 4 3", HOME.length() + 15, 4);
        error(HOME + "program p meek h 5 4 3", HOME.length() + 19, 2);
        error(HOME + "program p meek h 5 7 8", HOME.length() + 21, 2);
    }

    public static void main(String[] arguments) {
        promise1();
        promise2();
        parseReplaces();
        errorChangesNothing();
        bytesOutOfRange();
        parsesFirstBytes();
        tokens();
        ends();
        numbers();
        names();
        limits();
        firstError();
        Check.end("TextsTest");
    }
}
