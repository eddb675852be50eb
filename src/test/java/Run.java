/** A run of calls on a new object, each with the answer that is due. */
final class Run {
    private static final Calls CALLS = new Calls(Datesolo.class);
    private static int asked = 0;
    private static int wrong = 0;

    private final String name;
    private final Datesolo dates = new Datesolo();

    Run(String name) {
        this.name = name;
    }

    Run due(String call, Object want) {
        check(call, CALLS.answer(dates, call), want);
        return this;
    }

    /** Makes a call that is there for what comes behind it. */
    Run call(String call) {
        String got = CALLS.answer(dates, call);
        if (got.startsWith("throws.")) {
            check(call, got, "an answer");
        }
        return this;
    }

    /** The call has to throw just this exception and to change nothing. */
    Run refused(String call, String exception) {
        long before = dates.digest();
        due(call, exception);
        check(call + " changes nothing: digest()", dates.digest(), before);
        return this;
    }

    private void check(String call, Object got, Object want) {
        asked++;
        if (!String.valueOf(want).equals(String.valueOf(got))) {
            wrong++;
            System.out.println(name + ": " + call + " answered " + got + ", due is " + want);
        }
    }

    /** Ends a test: with exit code 1, if an answer was wrong. */
    static void end() {
        System.out.println(asked + " answers, " + wrong + " wrong");
        if (wrong != 0 || asked == 0) {
            System.exit(1);
        }
    }
}
