/** Counts the answers that are not due, tells them, and ends the program with 1 if there was one. */
final class Check {
    private static int wrong = 0;
    private static String about = "";

    private Check() {
    }

    interface Call {
        Object make();
    }

    /** The words of the document that the next answers are due by; wrong ones are told with them. */
    static void sentence(String words) {
        about = "\"" + words + "\": ";
    }

    static void due(String call, Object want, Object got) {
        if (!want.equals(got)) {
            wrong++;
            System.out.println(about + call + " answered " + got + ", due is " + want);
        }
    }

    static void due(String call, long want, long got) {
        due(call, (Object) want, (Object) got);
    }

    /** As due for long texts: tells the place where they begin to differ. */
    static void alike(String call, String want, String got) {
        int at = 0;
        while (at < want.length() && at < got.length() && want.charAt(at) == got.charAt(at)) {
            at++;
        }
        due(call + " from sign " + at + " on", around(want, at), (Object) around(got, at));
    }

    private static String around(String text, int at) {
        return ".." + text.substring(Math.max(0, at - 40), Math.min(text.length(), at + 40)) + "..";
    }

    static void dueThrow(String call, Class<? extends RuntimeException> want, Call made) {
        due(call, "throws " + want.getSimpleName(), answerOf(made));
    }

    static String answerOf(Call made) {
        try {
            return String.valueOf(made.make());
        } catch (RuntimeException e) {
            return "throws " + e.getClass().getSimpleName();
        }
    }

    static void end(String test) {
        System.out.println(test + ": " + (wrong == 0 ? "all answers are as due" : wrong + " answers are not as due"));
        System.exit(wrong == 0 ? 0 : 1);
    }
}
