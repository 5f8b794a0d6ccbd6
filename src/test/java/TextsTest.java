/** Promises 1 to 3 and the terms of the texts, sentence by sentence. */
final class TextsTest {
    private static final String LINK = "link 9 9 9 9 9;";
    private static final String HOME = LINK + "house h 9 9;";
    private static final String ONE = HOME + "program p meek h 1 9 5 0 0 0;";
    private static final String[] QUOTED = {"link", "house", "program", "off", "meek", "steady", "stubborn", "copying"};

    private TextsTest() {
    }

    /** Something of everything: 6 households and 12 programs that have run, with changes, snapshots and a report. */
    private static RefundShaper busy() {
        RefundShaper shaper = Texts.of(Scenes.full(40, 90, 2, 1, 3) + "off pa;off pl;");
        shaper.turn(2, false);
        shaper.run(27);
        shaper.report();
        shaper.saveSnapshot(0);
        shaper.saveSnapshot(1);
        shaper.run(1);
        return shaper;
    }

    private static void newObject() {
        Check.sentence("Creates a shaper as by the text \"link 100 80 1 1 1;\", with an empty buffer and an empty report");
        RefundShaper shaper = new RefundShaper();
        int[] due = {0, 0, 100, 80, 1, 1, 1, 0, 0, 0, 0, 0, 0};
        for (int what = 0; what < due.length; what++) {
            Check.due("new size " + what, due[what], shaper.size(what));
        }
        Check.due("new reportByte", -1, shaper.reportByte(0));
        Check.due("new undo", -1, shaper.undo());
        Check.due("new isWarned", false, shaper.isWarned());
        Check.due("new saveSnapshot", false, shaper.saveSnapshot(0));
        Check.due("new saveSnapshot", false, shaper.saveSnapshot(1));
        Check.alike("as by the text", Whole.of(Texts.of("link 100 80 1 1 1;")), Whole.of(new RefundShaper()));
        Check.dueThrow("nothing to parse", IllegalArgumentException.class, () -> new RefundShaper().parse(1));
    }

    private static void order() {
        Check.sentence("Appends 20 bytes to the input buffer: the four bytes of each argument, the most significant byte first");
        RefundShaper shaper = new RefundShaper();
        // "link 1234 56 78 9 1;": none of the 20 bytes could stand elsewhere
        Check.due("append", 20, shaper.append(0x6c696e6b, 0x20313233, 0x34203536, 0x20373820, 0x3920313b));
        Check.due("parse", 0, shaper.parse(20));
        int[] due = {1234, 56, 78, 9, 1};
        for (int i = 0; i < due.length; i++) {
            Check.due("size " + (i + 2), due[i], shaper.size(i + 2));
        }
        // the next bytes come behind those before
        Check.due("append", 20, shaper.append(0x6c696e6b, 0x20202020, 0x20202020, 0x20202020, 0x20202031));
        Check.due("append", 40, shaper.append(0x20322033, 0x20332034, 0x3b202020, 0x20202020, 0x20202020));
        Check.due("parse", 0, shaper.parse(40));
        Check.due("THRESHOLD", 2, shaper.size(3));
        Check.due("FORGET", 4, shaper.size(6));
        // each sign of a text, 128 more than it is
        for (int sign : new int[] {'l', ' ', '\n', '9', ';'}) {
            Texts.isWrongAt(LINK, "" + (char) (sign + 128), 1);
        }
        Check.due("append", 20, shaper.append(Integer.MIN_VALUE, Integer.MAX_VALUE, -1, 0, 1));
        Check.due("parse", Texts.error(0, 1), shaper.parse(20));
    }

    /** The first part, blanks, and the second part, as long as the buffer. */
    private static String filled(String first, String second) {
        StringBuilder text = new StringBuilder(first);
        while (text.length() < 700 - second.length()) {
            text.append(' ');
        }
        return text + second;
    }

    private static void fullBuffer() {
        Check.sentence("The input buffer holds at most 700 bytes");
        RefundShaper shaper = new RefundShaper();
        String text = filled(LINK, "house h 7 8;");
        for (int at = 0; at < 700; at += 20) {
            Check.due("append", at + 20, shaper.append(Texts.four(text, at), Texts.four(text, at + 4),
                    Texts.four(text, at + 8), Texts.four(text, at + 12), Texts.four(text, at + 16)));
        }
        Check.sentence("NONE, with nothing appended, if it would exceed 700");
        Check.due("append to a full buffer", -1, shaper.append(0, 0, 0, 0, 0));
        Check.due("append to a full buffer", -1, shaper.append(-1, -1, -1, -1, -1));
        Check.due("length of a full buffer", 700, shaper.size(10));
        Check.dueThrow("parse(701)", IllegalArgumentException.class, () -> shaper.parse(701));
        Check.due("parse(700)", 0, shaper.parse(700));
        Check.due("balance", 8, shaper.household(0, 1));
        Check.due("length behind parse", 0, shaper.size(10));
        Check.due("append begins anew", 20, shaper.append(0, 0, 0, 0, 0));
        Texts.isWrong(filled(LINK, "?"), 699, 1);
        Texts.isWrong(filled(LINK, "house h 7 8"), 700, 1);
        Texts.isWrong(filled("", ""), 700, 1);
    }

    private static void blanks() {
        Check.sentence("The bytes 32 and 10 separate tokens and are otherwise ignored");
        Texts.isFine(" \n link\n9\n9 9  9 9 ;\n", 0);
        Texts.isFine("\n\n  link 9 9 9 9 9 ; \n\n", 0);
        Texts.isFine("link9 9 9 9 9;house h9 9;program p meek h1 9 5 0 0 0;off p;", 1);
        Texts.isWrong("li nk 9 9 9 9 9;", 0, 1);
        Texts.isWrong("link 1\n1 9 9 9 9;", 15, 1);
        Texts.isWrong(LINK + "hou\nse h 9 9;", 15, 1);
        Texts.isWrong(LINK + "house a b 9 9;", 23, 1);
    }

    /** Each byte, in place of a statement, a NAME, a number and a semicolon. */
    private static void bytes() {
        Check.sentence("Any other byte, a longer word and a longer number is an invalid token");
        for (int sign = 0; sign < 256; sign++) {
            char c = (char) sign;
            boolean isBlank = c == 32 || c == 10;
            boolean isLetter = c >= 97 && c <= 122;
            boolean isDigit = c >= 48 && c <= 57;
            Check.due("byte " + sign + " for a statement", isBlank ? 0 : Texts.error(15, 1),
                    Texts.parse(new RefundShaper(), LINK + c));
            Check.due("byte " + sign + " ahead", isBlank ? 0 : Texts.error(0, 1),
                    Texts.parse(new RefundShaper(), c + LINK));
            Check.due("byte " + sign + " for a NAME", isLetter ? 0 : Texts.error(isBlank ? 23 : 21, 1),
                    Texts.parse(new RefundShaper(), LINK + "house " + c + " 9 9;"));
            Check.due("byte " + sign + " for a number", isDigit && c > 48 ? 0 : Texts.error(isBlank ? 14 : 5,
                    isDigit ? 2 : 1), Texts.parse(new RefundShaper(), "link " + c + " 9 9 9 9;"));
            Check.due("byte " + sign + " for a semicolon", c == 59 ? 0 : isDigit ? Texts.error(13, 2)
                    : Texts.error(isBlank ? 15 : 14, 1), Texts.parse(new RefundShaper(), "link 9 9 9 9 9" + c));
        }
    }

    private static void words() {
        Check.sentence("A maximal run of the letters a to z is a word of 1 to 8 letters");
        Texts.isFine(LINK + "house a 9 9;house z 9 9;house abcdefgh 9 9;house zzzzzzzz 9 9;", 0);
        Texts.isWrongAt(LINK + "house ", "abcdefghi", 1);
        Texts.isWrongAt(LINK + "house ", "zzzzzzzzzzzzzzzzzzzz", 1);
        Texts.isWrongAt(HOME + "program ", "abcdefghi", 1);
        Texts.isWrongAt("", "linklinkl", 1);
        Texts.isWrongAt("", "linkk", 1);
        Texts.isWrongAt("", "lin", 1);
        Texts.isWrongAt("", "Link", 1);
        Texts.isWrongAt(LINK, "houseprog", 1);
        Texts.isWrongAt(LINK, "houses", 1);
        Texts.isWrongAt(LINK, "programs", 1);
        Texts.isWrongAt(LINK, "of", 1);
        Texts.isWrongAt(HOME + "program p ", "mild", 1);
        Texts.isWrongAt(HOME + "program p ", "meeks", 1);
        Check.sentence("each word can be a NAME, also if it is quoted in the grammar");
        StringBuilder text = new StringBuilder(LINK);
        for (int i = 0; i < 6; i++) {
            text.append("house ").append(QUOTED[i]).append(" 9 9;");
        }
        for (int i = 0; i < 8; i++) {
            text.append("program ").append(QUOTED[i]).append(" copying ").append(QUOTED[i % 6]).append(" 0 0 0 0 0 0;");
        }
        Texts.isFine(text + "off off;off link;off copying;", 8);
        Texts.isFine(LINK + "house steady 9 9;house copying 9 9;program meek steady copying 0 0 0 0 0 0;", 1);
    }

    private static void numbers() {
        Check.sentence("A maximal run of digits is a number of 1 to 5 digits");
        Texts.isFine("link 00009 00009 00009 00009 00009;house h 99999 00000;", 0);
        Texts.isFine("link 9 9 9 9 9;house h 00001 99999;", 0);
        for (String longer : new String[] {"000009", "100000", "4294967305", "00000000000000000009"}) {
            Texts.isWrongAt("link ", longer, 1);
            Texts.isWrongAt(LINK + "house h 9 ", longer, 1);
        }
        Texts.isWrongAt("link ", "-1", 1);
        Texts.isWrongAt("link 9", "x", 1);
        Check.sentence("A semicolon is a token, too");
        Texts.isWrongAt("", ";", 1);
        Texts.isWrongAt(LINK, ";", 1);
        Texts.isWrongAt(ONE, ";", 1);
    }

    /** Each token of a whole text in turn: what is no such token there, and what if nothing comes. */
    private static void grammar() {
        String[] tokens = (ONE + "off p;").replace(";", " ; ").split(" ");
        StringBuilder ahead = new StringBuilder();
        for (String token : tokens) {
            Check.sentence("a token that the grammar does not allow at this place");
            for (String other : new String[] {"x", "7", ";", "?", "steadying"}) {
                boolean isName = token.length() == 1 && Character.isLetter(token.charAt(0));
                boolean isNumber = Character.isDigit(token.charAt(0));
                if (!(other.equals(token) || isName && other.equals("x") || isNumber && other.equals("7"))) {
                    Texts.isWrongAt(ahead.toString(), other, 1);
                }
            }
            Check.sentence("if the text ends too early, it is the number of bytes");
            boolean isWhole = ahead.toString().endsWith("; ");
            if (!isWhole) {
                Texts.isWrong(ahead.toString(), ahead.length(), 1);
                Texts.isWrong(ahead + " \n ", ahead.length() + 3, 1);
                String shorter = ahead.toString().trim();
                Texts.isWrong(shorter, shorter.length(), 1);
            } else {
                Texts.isFine(ahead.toString(), ahead.indexOf("program") < 0 ? 0 : 1);
            }
            ahead.append(token).append(' ');
        }
        Check.sentence("a token that the grammar does not allow at this place");
        Texts.isWrongAt(LINK, "link", 1);
        Texts.isWrongAt("link 9 9 9 9 9 ", "9", 1);
        Texts.isWrongAt(HOME + "program p meek h 1 9 5 0 0 0 ", "0", 1);
        Texts.isWrongAt(HOME + "program p ", "house", 1);
        Texts.isWrongAt(ONE + "off p ", "p", 1);
        Texts.isWrongAt(LINK, "steady", 1);
        Check.sentence("{ statement \";\" }");
        Texts.isFine(LINK, 0);
        Texts.isFine(LINK + "house a 9 9;program p meek a 0 0 0 0 0 0;off p;house b 9 9;program q meek b 0 0 0 0 0 0;", 2);
    }

    private static void ranges() {
        Check.sentence("CAPACITY (1 to 9999 units a slot)");
        range("link ", 1, 9999, " 9 9 9 9;", shaper -> shaper.size(2));
        Check.sentence("THRESHOLD (1 to 100 percent)");
        range("link 9 ", 1, 100, " 9 9 9;", shaper -> shaper.size(3));
        Check.sentence("PRICE (0 to 99 coins for a unit)");
        range("link 9 9 ", 0, 99, " 0 9;", shaper -> shaper.size(4));
        Check.sentence("REFUND (0 to PRICE coins for a unit)");
        for (int price : new int[] {0, 1, 7, 99}) {
            range("link 9 9 " + price + " ", 0, price, " 9;", shaper -> shaper.size(5));
        }
        Check.sentence("FORGET (0 to 9)");
        range("link 9 9 7 7 ", 0, 9, ";", shaper -> shaper.size(6));
        Check.sentence("a CAP (1 to 99999 units an hour)");
        range(LINK + "house h ", 1, 99999, " 9;", shaper -> shaper.household(0, 0));
        Check.sentence("A balance in a text is 0 to 99999");
        range(LINK + "house h 9 ", 0, 99999, ";", shaper -> shaper.household(0, 1));
        rangesOfPrograms();
    }

    private static void rangesOfPrograms() {
        String program = HOME + "program p meek h ";
        Check.sentence("a FLOOR and a CEILING (0 to 999, FLOOR not above CEILING)");
        range(program, 0, 999, " 999 999 0 0 0;", shaper -> shaper.program(0, 3));
        for (int floor : new int[] {0, 1, 7, 998, 999}) {
            range(program + floor + " ", floor, 999, " " + floor + " 0 0 0;", shaper -> shaper.program(0, 4));
        }
        Check.sentence("of a rate: FLOOR to CEILING");
        range(program + "7 70 ", 7, 70, " 0 0 0;", shaper -> shaper.program(0, 2));
        range(program + "7 7 ", 7, 7, " 0 0 0;", shaper -> shaper.program(0, 2));
        range(program + "0 0 ", 0, 0, " 0 0 0;", shaper -> shaper.program(0, 2));
        range(program + "999 999 ", 999, 999, " 0 0 0;", shaper -> shaper.program(0, 2));
        Check.sentence("a GAIN (0 to 99)");
        range(program + "7 70 7 ", 0, 99, " 0 0;", shaper -> shaper.program(0, 5));
        Check.sentence("a yield (0 to 100 percent)");
        range(program + "7 70 7 9 ", 0, 100, " 0;", shaper -> shaper.program(0, 6));
        Check.sentence("Its BASE is the yield that the text tells");
        range(program + "7 70 7 9 ", 0, 100, " 0;", shaper -> shaper.program(0, 8));
        Check.sentence("a LEARN (0 to 50)");
        range(program + "7 70 7 9 9 ", 0, 50, ";", shaper -> shaper.program(0, 7));
        Check.sentence("A program is on (at first) or off. Its misses are 0 at first");
        Check.due("on", "1 0", Scenes.programs(Texts.of(ONE + "program q meek h 0 0 0 0 0 0;off q;"), 10));
        Check.due("misses", 0, Texts.of(ONE).program(0, 9));
        Check.sentence("The kinds are 0 meek, 1 steady, 2 stubborn, 3 copying");
        for (int kind = 0; kind < 4; kind++) {
            Check.due("kind", kind, Texts.of(HOME + "program p " + QUOTED[kind + 4] + " h 0 0 0 0 0 0;").program(0, 1));
        }
    }

    private interface Told {
        int by(RefundShaper shaper);
    }

    /** Both ends are taken as they are, the next numbers beyond them are errors at their place. */
    private static void range(String ahead, int least, int most, String behind, Told told) {
        Check.due(ahead + least + behind, least, told.by(Texts.of(ahead + least + behind)));
        Check.due(ahead + most + behind, most, told.by(Texts.of(ahead + most + behind)));
        Texts.isWrong(ahead + (most + 1) + behind, ahead.length(), most == 99999 ? 1 : 2);
        if (least > 0) {
            Texts.isWrong(ahead + (least - 1) + behind, ahead.length(), 2);
        }
    }

    private static void names() {
        Check.sentence("3 a NAME that another household has (of \"house\") or another program has (the first one of \"program\")");
        Texts.isWrongAt(HOME + "house ", "h", 3);
        Texts.isWrongAt(HOME + "house a 9 9;house b 9 9;house ", "h", 3);
        Texts.isWrongAt(LINK + "house abcdefgh 9 9;house ", "abcdefgh", 3);
        Texts.isWrongAt(ONE + "program ", "p", 3);
        Texts.isFine(LINK + "house abcdefgh 9 9;house abcdefg 9 9;house abcdefgi 9 9;house bbcdefgh 9 9;house a 9 9;", 0);
        Texts.isFine(HOME + "program h meek h 0 0 0 0 0 0;", 1);
        Texts.isFine(ONE + "house p 9 9;", 1);
        Texts.isFine(ONE + "program pp meek h 0 0 0 0 0 0;program o meek h 0 0 0 0 0 0;", 3);
        Check.sentence("the NAME of an \"off\" whose program is off already");
        Texts.isWrongAt(ONE + "off p;off ", "p", 3);
        Texts.isWrongAt(ONE + "program q meek h 0 0 0 0 0 0;off p;off q;off ", "p", 3);
        Texts.isFine(ONE + "program q meek h 0 0 0 0 0 0;off q;off p;", 2);
        Check.sentence("4 a NAME that no household, or of \"off\" no program, told before has");
        Texts.isWrongAt(LINK + "program p meek ", "h", 4);
        Texts.isWrongAt(HOME + "program p meek ", "p", 4);
        Texts.isWrongAt(ONE + "program q meek ", "hh", 4);
        Texts.isWrongAt(ONE + "program q meek ", "p", 4);
        Texts.isWrongAt(ONE + "off ", "q", 4);
        Texts.isWrongAt(ONE + "off ", "h", 4);
        Texts.isWrongAt(HOME + "off ", "p", 4);
        Texts.isWrong(HOME + "off p;program p meek h 1 9 5 0 0 0;", HOME.length() + 4, 4);
        Texts.isWrong(LINK + "program p meek h 1 9 5 0 0 0;house h 9 9;", LINK.length() + 15, 4);
    }

    private static void limits() {
        Check.sentence("There are at most 6 households");
        StringBuilder text = new StringBuilder(LINK);
        for (char c = 'a'; c < 'g'; c++) {
            text.append("house ").append(c).append(" 9 9;");
        }
        Texts.isFine(text.toString(), 0);
        Check.due("households", 6, Texts.of(text.toString()).size(0));
        Check.sentence("5 the first word of a 7th household or a 13th program");
        Texts.isWrong(text + "house g 9 9;", text.length(), 5);
        Texts.isWrong(text + "house a 9 9;", text.length(), 5);
        Texts.isWrong(text + "house", text.length(), 5);
        Texts.isWrong(text + " \nhouse ?", text.length() + 2, 5);
        Check.sentence("There are at most 12 programs");
        for (char c = 'a'; c < 'm'; c++) {
            text.append("program ").append(c).append(" meek a 0 0 0 0 0 0;");
        }
        Texts.isFine(text.toString(), 12);
        Check.sentence("5 the first word of a 7th household or a 13th program");
        Texts.isWrong(text + "program m meek a 0 0 0 0 0 0;", text.length(), 5);
        Texts.isWrong(text + "program a", text.length(), 5);
        Texts.isWrong(text + "program", text.length(), 5);
        Texts.isWrong(text + "house g 9 9;", text.length(), 5);
        Texts.isFine(text + "off l;", 12);
        Texts.isWrong(text + "off m;", text.length() + 4, 4);
        String five = text.toString().replace("house f 9 9;", "");
        Texts.isFine(five + "house g 9 9;", 12);
        Texts.isWrong(five + "house g 9 9;house h 9 9;", five.length() + 12, 5);
    }

    private static void firstError() {
        Check.sentence("The error with the smallest offset is reported, with the smallest code of several at one offset");
        Texts.isWrong("link 0 0 0 0 0;", 5, 2);
        Texts.isWrong("link 9 9 9 9 10 ?", 13, 2);
        Texts.isWrong("link 100 9 9 10 ?", 13, 2);
        Texts.isWrong("link 9 9 9 9 9;house h 0 x", 23, 2);
        Texts.isWrong(HOME + "house h 0 9;#", HOME.length() + 6, 3);
        Texts.isWrong(HOME + "program p meek x 5 4 3", HOME.length() + 15, 4);
        Texts.isWrong(HOME + "program p mild x 5 4 3", HOME.length() + 10, 1);
        Texts.isWrong(HOME + "program p meek h 5 4 3", HOME.length() + 19, 2);
        Texts.isWrong(HOME + "program p meek h 5 7 8", HOME.length() + 21, 2);
        Texts.isWrong(HOME + "program p meek h 1000 7 8", HOME.length() + 17, 2);
        // a longer word is no NAME that is told before, a longer number is out of its range: code 1 all the same
        Texts.isWrongAt(HOME + "program p meek ", "abcdefghi", 1);
        Texts.isWrongAt(ONE + "off ", "abcdefghi", 1);
        Texts.isWrongAt("link 9 ", "100000", 1);
        Check.sentence("The offset is the index of the first byte of the token");
        Texts.isWrong("   \n  linkk 9", 6, 1);
        Texts.isWrong("link 9 9 9 9\n\n  99999;", 16, 2);
    }

    private static void bytesOfParse() {
        Check.sentence("bytes: 0 to the length of the buffer");
        RefundShaper shaper = new RefundShaper();
        Check.due("parse(0) of an empty buffer", -3, shaper.parse(0));
        Check.dueThrow("parse(1) of an empty buffer", IllegalArgumentException.class, () -> shaper.parse(1));
        Texts.append(shaper, LINK + "house");
        Check.dueThrow("parse(21)", IllegalArgumentException.class, () -> shaper.parse(21));
        Check.dueThrow("parse(-1)", IllegalArgumentException.class, () -> shaper.parse(-1));
        Check.due("buffer behind an exception", 20, shaper.size(10));
        Check.due("CAPACITY behind an exception", 100, shaper.size(2));
        Check.due("parse(20)", Texts.error(20, 1), shaper.parse(20));
        Texts.append(shaper, LINK + "house");
        Check.due("parse(0)", -3, shaper.parse(0));
        Check.due("buffer behind parse(0)", 0, shaper.size(10));
        Texts.append(shaper, LINK + "house");
        Check.due("parse(15)", 0, shaper.parse(15));
        Check.due("CAPACITY", 9, shaper.size(2));
        Check.due("buffer behind parse(15)", 0, shaper.size(10));
        Check.sentence("Parses the first bytes of the buffer as a text");
        firstBytes("link 9 9 9 9 99;", 14, Texts.error(14, 1));
        firstBytes("link 9 9 9 9  9;", 13, Texts.error(13, 1));
        firstBytes("link 9 9 9 9 9;;", 15, 0);
        firstBytes("links", 4, Texts.error(4, 1));
        firstBytes("link 9 9 9 9 9;house abcdefghi 9 9;", 29, Texts.error(29, 1));
        firstBytes("link 9 9 9 9 9;house h 99999 999999;", 34, Texts.error(34, 1));
        firstBytes(ONE, HOME.length(), 0);
    }

    private static void firstBytes(String text, int bytes, int due) {
        RefundShaper shaper = new RefundShaper();
        Texts.append(shaper, text);
        Check.due(bytes + " bytes of " + text, due, shaper.parse(bytes));
    }

    private static void parseReplaces() {
        Check.sentence("a text, which replaces everything but the report; nothing can be undone then, and both snapshots are gone");
        String[] texts = {ONE, ONE + "off p;", HOME, LINK, Scenes.FOUR, Scenes.full(9999, 100, 0, 0, 0)};
        for (String text : texts) {
            RefundShaper shaper = busy();
            Texts.parse(shaper, text);
            Check.due("undo behind parse", -1, shaper.undo());
            Check.dueThrow("snapshot 0", IllegalStateException.class, () -> shaper.restoreSnapshot(0));
            Check.dueThrow("snapshot 1", IllegalStateException.class, () -> shaper.restoreSnapshot(1));
            Check.due("an earlier snapshot 0", false, shaper.saveSnapshot(0));
            Check.due("an earlier snapshot 1", false, shaper.saveSnapshot(1));
            Check.due("the report stays", Texts.report(busy()), Texts.report(shaper));
            RefundShaper parsed = busy();
            RefundShaper made = Texts.of(text);
            Texts.parse(parsed, text);
            if (parsed.size(1) < 12) {
                Check.alike("all of it", Whole.of(made), Whole.of(parsed));
            }
            Check.due("run", made.run(13), parsed.run(13));
            Check.due("checksum", made.checksum(), parsed.checksum());
        }
        Check.sentence("a text, which replaces everything");
        for (String wrong : new String[] {ONE + "off p;?", HOME + "house x 9 9;program p steady x 2 8 7 6 5 4;?"}) {
            RefundShaper shaper = Texts.of(ONE);
            Texts.parse(shaper, wrong);
            Check.due("a text behind one with an error", 1, Texts.parse(shaper, ONE));
            Check.alike("all of it", Whole.of(Texts.of(ONE)), Whole.of(shaper));
        }
        Check.sentence("Returns the number of programs");
        Texts.isFine(Scenes.full(9999, 100, 0, 0, 0), 12);
    }

    private static void errorChangesNothing() {
        Check.sentence("The buffer is empty afterwards, also after an error, by which nothing else changes");
        String[] texts = {"", "?", LINK + "?", ONE + "x", HOME + "house h", ONE + "off p;off p;"};
        RefundShaper same = Texts.of(Scenes.FOUR);
        same.run(2);
        same.run(11);
        String before = Whole.of(same);
        for (String text : texts) {
            RefundShaper shaper = Texts.of(Scenes.FOUR);
            shaper.run(2);
            shaper.report();
            shaper.saveSnapshot(1);
            shaper.run(11);
            Check.due("error", true, Texts.parse(shaper, text) <= -3);
            Check.alike("all that is told", before, Whole.of(shaper));
            Check.due("report behind error", "ma 18%40 31\nst 15%30 36\nsu 12%10 17\nco 7%40 16\n",
                    Texts.report(shaper));
            Check.due("undo behind error", 1, shaper.undo());
            Check.due("time", 2, shaper.size(7));
            Check.dueThrow("snapshot that is none", IllegalStateException.class, () -> shaper.restoreSnapshot(0));
            Check.due("snapshot behind error", 2, shaper.restoreSnapshot(1));
        }
    }

    public static void main(String[] arguments) {
        newObject();
        order();
        fullBuffer();
        blanks();
        bytes();
        words();
        numbers();
        grammar();
        ranges();
        names();
        limits();
        firstError();
        bytesOfParse();
        parseReplaces();
        errorChangesNothing();
        Check.end("TextsTest");
    }
}
