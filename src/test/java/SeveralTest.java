/** "If several exceptions apply, the one that is named first is thrown." The place 0 is behind 1, 3 is the last DATE. */
public final class SeveralTest {
    private static final String[] FULL = {
        "of(0, 2023, 2, 28)", "of(1, 2023, 1, 31)", "of(2, -9999, 1, 1)", "of(3, 9999, 12, 31)", "of(4, 2024, 2, 29)",
        "span(0, 100000, 0, 0)", "span(1, 1, 0, 0)"};
    private static final String[] WRONG_INDEXES = {"6", "-1", "2147483647", "-2147483648"};
    private static final String[] MOVES = {
        "plusDays", "plusWeeks", "plusMonths", "plusYears", "minusDays", "minusWeeks", "minusMonths", "minusYears"};

    public static void main(String[] args) {
        indexAheadOfArgument();
        indexAheadOfState();
        argumentAheadOfState();
        argumentAheadOfStateInMoves();
        indexAheadOfBoth();
        Run.end();
    }

    private static void indexAheadOfArgument() {
        index("of(#, 10000, 1, 1)", "of(#, -10000, 1, 1)", "of(#, 2024, 13, 1)", "of(#, 2024, 0, 1)");
        index("of(#, 2024, 1, 32)", "of(#, 2024, 1, 0)");
        index("ofDay(#, 2932897)", "ofDay(#, -4371588)");
        index("ofYearDay(#, 10000, 1)", "ofYearDay(#, -10000, 1)", "ofYearDay(#, 2024, 0)", "ofYearDay(#, 2024, 367)");
        index("withYear(#, 10000)", "withYear(#, -10000)", "withMonth(#, 0)", "withMonth(#, 13)");
        index("withDay(#, 0)", "withDay(#, 32)", "withDayOfYear(#, 0)", "withDayOfYear(#, 367)");
        for (String move : MOVES) {
            index(move + "(#, 200001)", move + "(#, -200001)");
        }
        index("span(#, 100001, 0, 0)", "span(#, 0, -100001, 0)", "span(#, 0, 0, 100001)");
        index("ofSpan(#, 3)", "ofSpan(#, -1)");
        index("laterDayOfWeek(#, 200001)", "laterDayOfWeek(#, -200001)", "field(#, 6)", "field(#, -1)");
        index("wouldBe(#, 7, 0)", "wouldBe(#, -1, 0)", "wouldBe(#, 0, 200001)", "wouldBe(#, 0, -200001)");
        index("between(#, 0, 7)", "between(0, #, 7)", "between(#, 0, -1)", "between(0, #, -1)", "between(#, #, 7)");
        index("apart(#, 0, 3)", "apart(0, #, 3)", "apart(#, 0, -1)", "apart(0, #, -1)", "apart(#, #, 3)");
        index("sameDay(#, 10000)", "sameDay(#, -10000)");
    }

    private static void indexAheadOfState() {
        index("of(#, 2023, 2, 29)", "ofYearDay(#, 2023, 366)", "withDay(#, 31)", "withDayOfYear(#, 366)");
        index("plusYears(#, 200000)", "minusYears(#, 200000)", "wouldBe(#, 6, 200000)");
        index("until(#, 0, 1)", "until(#, 3, 2)", "until(0, #, 2)", "until(0, 3, #)");
        index("addSpan(#, 0)", "addSpan(0, #)");
        index("plusSpan(#, 0)", "plusSpan(3, #)", "minusSpan(#, 0)", "minusSpan(2, #)");
    }

    private static void argumentAheadOfState() {
        refused(Calls.ARGUMENT, "of(0, 10000, 2, 30)", "of(0, -10000, 4, 31)", "of(0, 10001, 2, 29)");
        refused(Calls.ARGUMENT, "of(0, 2023, 2, 32)", "of(0, 2023, 4, 32)", "of(0, 2023, 13, 31)", "of(0, 2023, 0, 31)");
        refused(Calls.ARGUMENT, "ofYearDay(0, 10001, 366)", "ofYearDay(0, -10001, 366)", "ofYearDay(0, 2023, 367)");
        refused(Calls.ARGUMENT, "withDay(0, 32)", "withDay(0, 2147483647)", "withDay(4, 32)");
        refused(Calls.ARGUMENT, "withDayOfYear(0, 367)", "withDayOfYear(0, 2147483647)");
        refused(Calls.ARGUMENT, "wouldBe(3, 7, 1)", "wouldBe(2, -1, -1)", "wouldBe(3, 6, 200001)", "wouldBe(3, 0, 200001)");
        refused(Calls.ARGUMENT, "apart(0, 1, 3)", "apart(0, 1, -1)", "apart(3, 2, 2147483647)", "apart(3, 2, -2147483648)");
    }

    private static void argumentAheadOfStateInMoves() {
        for (String move : MOVES) {
            for (String many : new String[] {"200001", "-200001", "2147483647", "-2147483648"}) {
                refused(Calls.ARGUMENT, move + "(2, " + many + ")", move + "(3, " + many + ")");
            }
        }
    }

    private static void indexAheadOfBoth() {
        index("of(#, 10000, 2, 30)", "of(#, 2023, 2, 32)", "ofYearDay(#, 10001, 366)", "ofYearDay(#, 2023, 367)");
        index("apart(#, 2, 3)", "apart(3, #, 3)", "wouldBe(#, 7, 200001)", "plusYears(#, 200001)");
    }

    /** A number that is no PLACE, and no SPAN, goes where "#" stands. */
    private static void index(String... calls) {
        for (String call : calls) {
            for (String number : WRONG_INDEXES) {
                refused(Calls.INDEX, call.replace("#", number));
            }
        }
    }

    private static void refused(String exception, String... calls) {
        for (String call : calls) {
            new Run("several exceptions").calls(FULL).refused(call, exception);
        }
    }
}
