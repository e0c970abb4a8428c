import java.util.Objects;

/** Compares answers with those that are due, and counts the wrong ones. */
final class Check {
    static final String INDEX = "throws.IndexOutOfBoundsException";
    static final String ARGUMENT = "throws.IllegalArgumentException";
    static final String STATE = "throws.IllegalStateException";

    interface Call {
        Object answer();
    }

    private static int checks;
    private static int wrong;
    private static String theme = "";

    private Check() {
    }

    /** Sets what wrong answers are told with from now on. */
    static void about(String newTheme) {
        theme = newTheme.isEmpty() ? "" : newTheme + "\n    ";
    }

    static void due(String what, Object want, Object got) {
        checks++;
        if (!Objects.equals(want, got)) {
            wrong++;
            System.out.println(theme + what + ": answered " + got + ", due is " + want);
        }
    }

    /** The answer of a call, or "throws." and the name of the exception. */
    static Object answerOf(Call call) {
        try {
            return call.answer();
        } catch (RuntimeException e) {
            return "throws." + e.getClass().getSimpleName();
        }
    }

    static int checks() {
        return checks;
    }

    static boolean isAnyWrong() {
        return wrong > 0;
    }

    static void end(String name) {
        System.out.println(name + ": " + checks + " checks, " + wrong + " wrong");
        if (checks == 0 || wrong > 0) {
            System.exit(1);
        }
    }
}
