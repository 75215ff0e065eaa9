import java.util.Objects;

/** Counts the answers that are not as due, and ends a test with exit code 1 if there was one. */
final class Check {
    /** A call whose answer is looked at. */
    interface Call {
        Object answer();
    }

    private static int wrong = 0;
    private static int looked = 0;
    private static String subject = "";

    private Check() {
    }

    /** What the answers that follow are about; it is told with each that is not as due. */
    static void about(String what) {
        subject = what + ": ";
    }

    /** The call is due to answer want; a class of exceptions as want means that the call throws exactly that one. */
    static void due(String what, Object want, Call call) {
        looked++;
        Object got = answerOf(call);
        if (!Objects.equals(got, want)) {
            wrong++;
            System.out.println(subject + what + ": answered " + got + ", due is " + want);
        }
    }

    /** The answer of a call, or the class of what it throws; what the machine itself throws is told as a text. */
    static Object answerOf(Call call) {
        try {
            return call.answer();
        } catch (RuntimeException e) {
            StackTraceElement[] trace = e.getStackTrace();
            boolean isByProgram = trace.length > 0 && trace[0].getClassName().startsWith("CaseManager");
            return isByProgram ? e.getClass() : "thrown outside the program's own words: " + e;
        }
    }

    static int wrongSoFar() {
        return wrong;
    }

    static int lookedSoFar() {
        return looked;
    }

    static void end() {
        System.out.println(looked + " answers looked at, " + wrong + " not as due");
        if (wrong != 0) {
            System.exit(1);
        }
    }
}
