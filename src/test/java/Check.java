import java.util.Objects;

/** Counts and prints the answers that are not the ones that are due. */
final class Check {
    private static int wrong = 0;
    private static int checked = 0;
    private static String heading = "";

    interface Call {
        Object answer();
    }

    private Check() {
    }

    /** What stands in front of the text of each check from now on. */
    static void under(String newHeading) {
        heading = newHeading;
    }

    static int count() {
        return checked;
    }

    static void due(String what, Object want, Call call) {
        checked++;
        String got = outcome(call);
        if (!Objects.equals(got, String.valueOf(want))) {
            wrong++;
            System.out.println(heading + what + ": answered " + got + ", due is " + want);
        }
    }

    static void thrown(String what, Class<? extends RuntimeException> want, Call call) {
        due(what, "throws." + want.getSimpleName(), call);
    }

    /** The answer as a text, or "throws." and the name of the exception. */
    static String outcome(Call call) {
        try {
            return String.valueOf(call.answer());
        } catch (RuntimeException e) {
            return "throws." + e.getClass().getSimpleName();
        }
    }

    static void finish(String test) {
        System.out.println(test + ": " + checked + " answers, " + wrong + " wrong");
        if (wrong != 0) {
            System.exit(1);
        }
    }
}
