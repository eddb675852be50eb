import java.util.ArrayList;
import java.util.List;

/** A run of calls on a new object, each with the answer that is due. */
final class Run {
    private static final Calls CALLS = new Calls(Datesolo.class);
    private static final int MOST_CALLS = 512;
    private static final int CALLS_A_PICTURE = 40;
    private static int asked = 0;
    private static int wrong = 0;

    private final String name;
    private final List<String> made = new ArrayList<>();
    private final Datesolo dates = new Datesolo();

    Run(String name) {
        this.name = name;
    }

    /** The call has to answer this; if that is an exception, it has to change nothing, too. */
    Run due(String call, Object want) {
        if (String.valueOf(want).startsWith("throws.")) {
            return refused(call, String.valueOf(want));
        }
        check(call, make(call), want);
        return this;
    }

    /** Makes a call that is there for what comes behind it. */
    Run call(String call) {
        String got = make(call);
        if (got.startsWith("throws.")) {
            check(call, got, "an answer");
        }
        return this;
    }

    Run calls(String... calls) {
        for (String call : calls) {
            call(call);
        }
        return this;
    }

    /** The call has to throw just this exception and to change nothing. */
    Run refused(String call, String exception) {
        check(call, make(call), exception);
        Datesolo twin = twin();
        String before = picture(twin);
        check(call, CALLS.answer(twin, call), exception);
        check("what is there behind " + call, picture(twin), before);
        return this;
    }

    /** The call has to answer this and to change nothing, as one that asks. */
    Run asked(String call, Object want) {
        check(call, make(call), want);
        Datesolo twin = twin();
        String before = picture(twin);
        CALLS.answer(twin, call);
        check("what is there behind " + call, picture(twin), before);
        return this;
    }

    private String make(String call) {
        made.add(call);
        if (made.size() > MOST_CALLS - 2 * CALLS_A_PICTURE) {
            throw new IllegalStateException(name + ": a test makes too many calls on one object");
        }
        return CALLS.answer(dates, call);
    }

    /** A new object behind all calls of this run but the last one: what a picture asks would use up the 512 calls of this one. */
    private Datesolo twin() {
        Datesolo twin = new Datesolo();
        for (String call : made.subList(0, made.size() - 1)) {
            CALLS.answer(twin, call);
        }
        return twin;
    }

    /** The DATES, the SPANS and what house() tells. */
    private static String picture(Datesolo dates) {
        StringBuilder told = new StringBuilder();
        for (int place = 0; place < 6; place++) {
            told.append(dates.toDay(place)).append(" is ").append(dates.year(place)).append(' ').append(dates.month(place))
                .append(' ').append(dates.day(place)).append(", day ").append(dates.dayOfYear(place)).append("; ");
        }
        for (int what = 0; what < 3; what++) {
            told.append(dates.ofSpan(0, what)).append(' ').append(dates.ofSpan(1, what)).append(' ');
            told.append(dates.house(what)).append("; ");
        }
        return told.append(dates.digest()).toString();
    }

    private void check(String call, Object got, Object want) {
        same(name + ": " + call, got, want);
    }

    static void same(String what, Object got, Object want) {
        asked++;
        if (!String.valueOf(want).equals(String.valueOf(got))) {
            wrong++;
            System.out.println(what + " answered " + got + ", due is " + want);
        }
    }

    /** Ends a test: with exit code 1, if an answer was wrong. */
    static void end() {
        System.out.println(asked + " answers, " + wrong + " wrong");
        if (wrong != 0 || asked == 0) {
            System.exit(1);
        }
    }
}
