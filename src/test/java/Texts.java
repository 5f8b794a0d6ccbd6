/** Puts texts into shapers. */
final class Texts {
    private Texts() {
    }

    /** Appends a text (a sign is a byte), filled up with bytes 0 to the next 20. */
    static void append(RefundShaper shaper, String text) {
        for (int at = 0; at < text.length(); at += 20) {
            shaper.append(four(text, at), four(text, at + 4), four(text, at + 8), four(text, at + 12),
                    four(text, at + 16));
        }
    }

    static int four(String text, int at) {
        int number = 0;
        for (int i = at; i < at + 4; i++) {
            number = number << 8 | (i < text.length() ? text.charAt(i) : 0);
        }
        return number;
    }

    static int parse(RefundShaper shaper, String text) {
        append(shaper, text);
        return shaper.parse(text.length());
    }

    static RefundShaper of(String text) {
        RefundShaper shaper = new RefundShaper();
        int programs = parse(shaper, text);
        if (programs < 0) {
            throw new IllegalStateException("parse answered " + programs + " to " + text);
        }
        return shaper;
    }

    /** What parse has to answer for an error. */
    static int error(int offset, int code) {
        return -2 - (8 * offset + code);
    }

    static void isFine(String text, int programs) {
        Check.due(text, programs, parse(new RefundShaper(), text));
    }

    static void isWrong(String text, int offset, int code) {
        Check.due(text, error(offset, code), parse(new RefundShaper(), text));
    }

    /** A text that is wrong from its last token on, also if more comes behind it. */
    static void isWrongAt(String ahead, String token, int code) {
        isWrong(ahead + token, ahead.length(), code);
        isWrong(ahead + token + " ;", ahead.length(), code);
    }

    /** The latest report as a text. */
    static String report(RefundShaper shaper) {
        StringBuilder signs = new StringBuilder();
        for (int sign = shaper.reportByte(0); sign != RefundShaper.NONE; sign = shaper.reportByte(signs.length())) {
            signs.append((char) sign);
        }
        return signs.toString();
    }
}
