/**
 * The numbers between which an argument has to be, as the promises 2 to 51 name them under "Throws": a line for each
 * argument. Its least and its greatest number are taken, the ones beside them, the least int and the greatest int are
 * refused; and each refused call changes nothing.
 */
public final class BoundsTest {
    private static final String[] FULL = {
        "of(0, 2024, 2, 29)", "of(1, 2023, 1, 31)", "of(2, -9999, 1, 1)", "of(3, 9999, 12, 31)", "of(4, 0, 12, 31)",
        "of(5, 2024, 3, 30)", "span(0, 1, 2, 3)", "span(1, -4, -5, -6)", "knock()"};

    public static void main(String[] args) {
        given();
        set();
        plus();
        minus();
        spans();
        asked();
        askedOfTwo();
        house();
        Run.end();
    }

    private static void given() {
        places("of(#, 2023, 3, 1)", 19417, 19417);
        numbers("of(0, #, 1, 1)", -9999, -4371587, 9999, 2932532);
        numbers("of(0, 2023, #, 1)", 1, 19358, 12, 19692);
        numbers("of(0, 2023, 1, #)", 1, 19358, 31, 19388);
        places("ofDay(#, 7)", 7, 7);
        numbers("ofDay(0, #)", -4371587, -4371587, 2932896, 2932896);
        places("ofYearDay(#, 2023, 60)", 19417, 19417);
        numbers("ofYearDay(0, #, 1)", -9999, -4371587, 9999, 2932532);
        numbers("ofYearDay(0, 2024, #)", 1, 19723, 366, 20088);
        places("copy(#, 1)", 19388, 19388);
        places("copy(1, #)", 19782, 19812);
        places("epoch(#)", 19782, 19812);
        places("swap(#, 1)", 19388, 19388);
        places("swap(1, #)", 19782, 19812);
    }

    private static void set() {
        places("withYear(#, 2023)", 19416, 19446);
        numbers("withYear(0, #)", -9999, -4371529, 9999, 2932590);
        places("withMonth(#, 2)", 19782, 19782);
        numbers("withMonth(1, #)", 1, 19388, 12, 19722);
        places("withDay(#, 1)", 19754, 19783);
        numbers("withDay(1, #)", 1, 19358, 31, 19388);
        places("withDayOfYear(#, 1)", 19723, 19723);
        numbers("withDayOfYear(0, #)", 1, 19723, 366, 20088);
        places("toFirst(#)", 19754, 19783);
        places("toLast(#)", 19782, 19813);
    }

    private static void plus() {
        places("plusDays(#, 1)", 19783, 19813);
        numbers("plusDays(0, #)", -200000, -180218, 200000, 219782);
        places("plusWeeks(#, 1)", 19789, 19819);
        numbers("plusWeeks(0, #)", -200000, -1380218, 200000, 1419782);
        places("plusMonths(#, 1)", 19811, 19843);
        numbers("plusMonths(3, #)", -200000, -3154480, 200000, Calls.STATE);
        numbers("plusMonths(2, #)", -200000, Calls.STATE, 200000, 1715787);
        places("plusYears(#, 1)", 20147, 20177);
        numbers("plusYears(0, #)", -200000, Calls.STATE, 200000, Calls.STATE);
    }

    private static void minus() {
        places("minusDays(#, 1)", 19781, 19811);
        numbers("minusDays(0, #)", -200000, 219782, 200000, -180218);
        places("minusWeeks(#, 1)", 19775, 19805);
        numbers("minusWeeks(0, #)", -200000, 1419782, 200000, -1380218);
        places("minusMonths(#, 1)", 19751, 19782);
        numbers("minusMonths(3, #)", -200000, Calls.STATE, 200000, -3154480);
        numbers("minusMonths(2, #)", -200000, 1715787, 200000, Calls.STATE);
        places("minusYears(#, 1)", 19416, 19446);
        numbers("minusYears(0, #)", -200000, Calls.STATE, 200000, Calls.STATE);
    }

    private static void spans() {
        spans("span(#, 1, 1, 1)", 13, 13);
        numbers("span(0, #, 2, 3)", -100000, -1199998, 100000, 1200002);
        numbers("span(0, 1, #, 3)", -100000, -99988, 100000, 100012);
        numbers("span(0, 1, 2, #)", -100000, 14, 100000, 14);
        spans("until(#, 1, 0)", 29, 29);
        places("until(0, #, 3)", 2, 1);
        places("until(0, 2, #)", 28, 29);
        spans("addSpan(#, 1)", -3, -12);
        spans("addSpan(0, #)", 6, -3);
        spans("ofSpan(#, 0)", 1, -4);
        numbers("ofSpan(0, #)", 0, 1, 2, 3);
        places("plusSpan(#, 0)", 20210, 20241);
        spans("plusSpan(0, #)", 20210, 18162);
        places("minusSpan(#, 0)", 19352, 19384);
        spans("minusSpan(0, #)", 19352, 21400);
    }

    private static void asked() {
        places("year(#)", 2024, 2024);
        places("month(#)", 2, 3);
        places("day(#)", 29, 30);
        places("dayOfYear(#)", 60, 90);
        places("dayOfWeek(#)", 4, 6);
        places("laterDayOfWeek(#, 1)", 5, 7);
        numbers("laterDayOfWeek(0, #)", -200000, 1, 200000, 7);
        places("lengthOfMonth(#)", 29, 31);
        places("lengthOfYear(#)", 366, 366);
        places("isLeapYear(#)", true, true);
        places("field(#, 0)", 1, 2);
        numbers("field(0, #)", 0, 1, 5, 1);
        places("toDay(#)", 19782, 19812);
        places("text(#)", "2024-02-29", "2024-03-30");
        numbers("isDate(#, 2, 29)", -9999, false, 9999, false);
        numbers("isDate(2023, #, 31)", 1, true, 12, true);
        numbers("isDate(2023, 2, #)", 1, true, 31, false);
        places("wouldBe(#, 0, 1)", 19783, 19813);
        numbers("wouldBe(0, #, 1)", 0, 19783, 6, 385024);
        numbers("wouldBe(0, 0, #)", -200000, -180218, 200000, 219782);
        numbers("wouldBe(0, 1, #)", -200000, -1380218, 200000, 1419782);
        numbers("wouldBe(3, 2, #)", -200000, -3154480, 200000, Calls.STATE);
        numbers("wouldBe(2, 2, #)", -200000, Calls.STATE, 200000, 1715787);
        for (int unit = 3; unit <= 6; unit++) {
            numbers("wouldBe(0, " + unit + ", #)", -200000, Calls.STATE, 200000, Calls.STATE);
        }
    }

    private static void askedOfTwo() {
        places("compare(#, 1)", 1, 1);
        places("compare(1, #)", -1, -1);
        places("isBefore(#, 1)", false, false);
        places("isBefore(1, #)", true, true);
        places("isAfter(#, 1)", true, true);
        places("isAfter(1, #)", false, false);
        places("isSame(#, 0)", true, false);
        places("isSame(0, #)", true, false);
        places("between(#, 1, 0)", -394, -424);
        places("between(1, #, 0)", 394, 424);
        numbers("between(1, 0, #)", 0, 394, 6, 0);
        places("apart(#, 3, 2)", 2, 1);
        places("apart(2, #, 2)", 28, 29);
        numbers("apart(1, 0, #)", 0, 1, 2, 29);
        places("daysToYearEnd(#)", 306, 276);
        places("sameDay(#, 2023)", 19416, 19446);
        numbers("sameDay(0, #)", -9999, -4371529, 9999, 2932590);
    }

    private static void house() {
        numbers("house(#)", 0, 8, 2, -2098872);
    }

    private static void places(String call, Object first, Object last) {
        bounds(call, 0, first, 5, last, Calls.INDEX);
    }

    private static void spans(String call, Object first, Object last) {
        bounds(call, 0, first, 1, last, Calls.INDEX);
    }

    private static void numbers(String call, int least, Object first, int most, Object last) {
        bounds(call, least, first, most, last, Calls.ARGUMENT);
    }

    /** The number goes where "#" stands; each call is made on an object of its own. */
    private static void bounds(String call, int least, Object first, int most, Object last, String exception) {
        full(call).due(with(call, least), first);
        full(call).due(with(call, most), last);
        for (int number : new int[] {least - 1, most + 1, Integer.MIN_VALUE, Integer.MIN_VALUE + 1, Integer.MAX_VALUE}) {
            full(call).refused(with(call, number), exception);
        }
    }

    private static Run full(String call) {
        return new Run("bounds of " + call).calls(FULL);
    }

    private static String with(String call, int number) {
        return call.replace("#", String.valueOf(number));
    }
}
