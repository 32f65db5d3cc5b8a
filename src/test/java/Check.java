/** Counts the answers that are not due, and tells them. */
final class Check {
    /** A call whose answer is told as a long (a boolean counts 1 or 0). */
    interface Call {
        long answer();
    }

    private static int checked = 0;
    private static int wrong = 0;
    private static String about = "";

    private Check() {
    }

    /** What the answers to come are about; a wrong one is told with it. */
    static void about(String words) {
        about = words + ": ";
    }

    static void due(String call, long want, long got) {
        checked++;
        if (got != want) {
            tell(call + " answered " + got + ", due is " + want);
        }
    }

    static void due(String call, boolean want, boolean got) {
        due(call, want ? 1 : 0, got ? 1 : 0);
    }

    static void dueDouble(String call, double want, double got) {
        checked++;
        if (Double.compare(got, want) != 0) {
            tell(call + " answered " + got + ", due is " + want);
        }
    }

    /** The call throws just this exception, none of a class below it, and changes nothing. */
    static void refused(KnockControl x, String call, Class<? extends RuntimeException> want, Call made) {
        checked++;
        long before = x.digest();
        try {
            long got = made.answer();
            tell(call + " answered " + got + ", due is " + want.getName());
        } catch (RuntimeException e) {
            if (e.getClass() != want) {
                tell(call + " threw " + e.getClass().getName() + ", due is " + want.getName());
            }
        }
        if (x.digest() != before) {
            tell(call + " was refused, but changed the state");
        }
    }

    static void refusedArgument(KnockControl x, String call, Call made) {
        refused(x, call, IllegalArgumentException.class, made);
    }

    static void refusedPlace(KnockControl x, String call, Call made) {
        refused(x, call, IndexOutOfBoundsException.class, made);
    }

    static void refusedState(KnockControl x, String call, Call made) {
        refused(x, call, IllegalStateException.class, made);
    }

    static void tell(String fault) {
        wrong++;
        if (wrong <= 40) {
            System.out.println(about + fault);
        }
    }

    /** To be called last: ends the program with exit code 1 if an answer was wrong. */
    static void end() {
        System.out.println(checked + " answers checked, " + wrong + " wrong");
        if (wrong > 0 || checked == 0) {
            System.exit(1);
        }
    }
}
