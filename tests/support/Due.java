import java.util.Objects;

/** Compares answers with those that are due, and counts the wrong ones. */
final class Due {
    interface Call {
        Object answer();
    }

    private static int calls = 0;
    private static int wrong = 0;

    private Due() {
    }

    static void answer(String call, Object want, Call made) {
        String got;
        try {
            got = String.valueOf(made.answer());
        } catch (RuntimeException e) {
            got = "throws." + e.getClass().getSimpleName();
        }
        compare(call, got, Objects.toString(want));
    }

    static void refusal(String call, Class<? extends RuntimeException> want, Call made) {
        answer(call, "throws." + want.getSimpleName(), made);
    }

    static void compare(String call, String got, String want) {
        calls++;
        if (!got.equals(want)) {
            wrong++;
            System.out.println(call + " answered " + got + ", due is " + want);
        }
    }

    static void finish() {
        System.out.println(calls + " answers, " + wrong + " of them wrong");
        if (wrong != 0 || calls == 0) {
            System.exit(1);
        }
    }
}
