import java.util.Objects;

/** Counts the answers of a test, prints those that are not due, and ends the test. */
final class Check {
    interface Call {
        Object answer();
    }

    private static String subject = "";
    private static int right = 0;
    private static int wrong = 0;

    private Check() {
    }

    /** Names what the next answers are about; each wrong one is printed with it. */
    static void about(String newSubject) {
        subject = newSubject.isEmpty() ? "" : newSubject + " | ";
    }

    static void same(String what, Object got, Object want) {
        if (Objects.equals(got, want)) {
            right++;
        } else {
            wrong++;
            System.out.println(subject + what + ": answered " + got + ", due is " + want);
        }
    }

    static void fails(String what, Class<? extends RuntimeException> want, Call call) {
        same(what, outcome(call), "throws " + want.getSimpleName());
    }

    /** Answers what a call answers, or the name of the exception that it throws. */
    static Object outcome(Call call) {
        try {
            return call.answer();
        } catch (RuntimeException thrown) {
            return told(thrown);
        }
    }

    /** Names an exception, and says so if the machine or the library threw it, and not the program by a throw. */
    static String told(Throwable thrown) {
        String name = "throws " + thrown.getClass().getSimpleName();
        StackTraceElement[] trace = thrown.getStackTrace();
        boolean isOwn = trace.length > 0 && trace[0].getClassName().startsWith("MinsterClock");
        boolean isDivision = "/ by zero".equals(thrown.getMessage());
        return isOwn && !isDivision ? name : name + " by itself";
    }

    static int rightAnswers() {
        return right;
    }

    static int wrongAnswers() {
        return wrong;
    }

    static void end(String test) {
        System.out.println(test + ": " + right + " answers as due, " + wrong + " not");
        if (wrong > 0) {
            System.exit(1);
        }
    }
}
