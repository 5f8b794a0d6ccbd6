/** Counts the answers that are not due, tells them, and ends the program with 1 if there was one. */
final class Check {
    private static int wrong = 0;

    private Check() {
    }

    interface Call {
        Object make();
    }

    static void due(String call, Object want, Object got) {
        if (!want.equals(got)) {
            wrong++;
            System.out.println(call + " answered " + got + ", due is " + want);
        }
    }

    static void due(String call, long want, long got) {
        due(call, (Object) want, (Object) got);
    }

    static void dueThrow(String call, Class<? extends RuntimeException> want, Call made) {
        due(call, "throws " + want.getSimpleName(), answerOf(made));
    }

    static String answerOf(Call made) {
        try {
            return String.valueOf(made.make());
        } catch (RuntimeException e) {
            return "throws " + e.getClass().getSimpleName();
        }
    }

    static void end(String test) {
        System.out.println(test + ": " + (wrong == 0 ? "all answers are as due" : wrong + " answers are not as due"));
        System.exit(wrong == 0 ? 0 : 1);
    }
}
