/** Promises 50 to 54: all places and spans at once. */
public final class AllTest {
    public static void main(String[] args) {
        reset();
        house();
        knock();
        isSound();
        digestOfNewObject();
        digestOfDates();
        Run.end();
    }

    private static void reset() {
        Run run = new Run("50 reset")
            .due("reset()", 0)
            .call("ofDay(0, 5)").call("ofDay(1, 0)").call("ofDay(2, -5)").call("ofDay(5, 5)")
            .call("span(0, 1, 2, 3)").call("span(1, 4, 5, 6)").call("knock()")
            .due("reset()", 3);
        for (int place = 0; place < 6; place++) {
            run.due("toDay(" + place + ")", 0);
        }
        for (int what = 0; what < 3; what++) {
            run.due("ofSpan(0, " + what + ")", 0).due("ofSpan(1, " + what + ")", 0);
        }
        run.due("house(0)", 6).due("house(1)", 1).due("house(2)", 0).due("reset()", 0).due("house(0)", 6);
        for (int place = 0; place < 6; place++) {
            run.call("plusDays(" + place + ", 1)");
        }
        run.due("reset()", 6);
    }

    private static void house() {
        String[] giving = {
            "of(0, 2024, 2, 29)", "ofDay(1, 9)", "ofYearDay(2, 2024, 366)", "copy(0, 0)", "epoch(3)", "swap(0, 0)",
            "withYear(0, 2000)", "withMonth(0, 1)", "withDay(0, 29)", "withDayOfYear(0, 1)", "toFirst(0)", "toLast(0)",
            "plusDays(0, 0)", "plusWeeks(0, 0)", "plusMonths(0, 0)", "plusYears(0, 0)",
            "minusDays(0, 0)", "minusWeeks(0, 0)", "minusMonths(0, 0)", "minusYears(0, 0)",
            "span(0, 0, 0, 0)", "until(0, 0, 0)", "addSpan(0, 0)", "plusSpan(0, 0)", "minusSpan(0, 0)"};
        String[] asking = {
            "ofSpan(0, 0)", "year(0)", "month(0)", "day(0)", "dayOfYear(0)", "dayOfWeek(0)", "laterDayOfWeek(0, 1)",
            "lengthOfMonth(0)", "lengthOfYear(0)", "isLeapYear(0)", "field(0, 0)", "toDay(0)", "text(0)", "isDate(1, 1, 1)",
            "wouldBe(0, 0, 1)", "compare(0, 1)", "isBefore(0, 1)", "isAfter(0, 1)", "isSame(0, 1)", "between(0, 1, 0)",
            "apart(0, 0, 0)", "daysToYearEnd(0)", "sameDay(0, 1)", "reset()", "house(0)", "knock()", "isSound()", "digest()"};
        Run run = new Run("51 house");
        for (int i = 0; i < giving.length; i++) {
            run.call(giving[i]).due("house(0)", i + 1);
        }
        for (String call : asking) {
            run.call(call).due("house(0)", giving.length);
        }
        run.due("house(1)", 1).due("house(2)", 0)
            .call("ofDay(0, 10)").call("ofDay(5, -300)").due("house(2)", -290)
            .refused("house(3)", Calls.ARGUMENT).refused("house(-1)", Calls.ARGUMENT)
            .refused("house(2147483647)", Calls.ARGUMENT).refused("house(-2147483648)", Calls.ARGUMENT);
        run = new Run("51 house: the least sum");
        for (int place = 0; place < 6; place++) {
            run.call("ofDay(" + place + ", -4371587)");
        }
        run.due("house(2)", -26229522);
    }

    private static void knock() {
        new Run("52 knock")
            .due("knock()", 1).due("knock()", 2).due("house(1)", 2).call("reset()").due("knock()", 3)
            .due("house(1)", 3).due("house(0)", 0);
    }

    private static void isSound() {
        new Run("53 isSound")
            .due("isSound()", true)
            .call("ofDay(0, 2932896)").call("ofDay(1, -4371587)").due("isSound()", true)
            .call("of(2, 2024, 2, 29)").call("of(3, 2023, 1, 31)").call("of(4, -1, 12, 31)").call("of(5, 0, 2, 29)")
            .due("isSound()", true).due("house(0)", 6).due("toDay(0)", 2932896);
    }

    private static void digestOfNewObject() {
        long[] place = {0, 1970, 1, 1, 1, 4, 31, 365, 0, 1, 1, 1, 1, 1970, 1, 10};
        long sum = 7787;
        for (int i = 0; i < 6; i++) {
            sum = with(sum, place);
        }
        sum = with(sum, new long[6]);
        sum = with(sum, new long[5 * 8]);
        sum = with(sum, 0, 0, 0, 1);
        new Run("54 digest").due("digest()", sum).due("digest()", sum);
    }

    private static void digestOfDates() {
        long sum = 7787;
        sum = with(sum, 19782, 2024, 2, 29, 60, 4, 29, 366, 1, 1, 5, 4, 9, 2024, 1, 10);
        sum = with(sum, -719529, -1, 12, 31, 365, 5, 31, 365, 0, 3, 5, 1, 53, 2, 0, 1);
        for (int i = 2; i < 6; i++) {
            sum = with(sum, 0, 1970, 1, 1, 1, 4, 31, 365, 0, 1, 1, 1, 1, 1970, 1, 10);
        }
        sum = with(sum, 1, 2, 3, -4, -5, -6);
        sum = with(sum, 1, -739311, -105615, -24289, -2024, -202, -20, -2);
        sum = with(sum, -1, 719529, 102789, 23640, 1970, 197, 19, 1);
        sum = with(sum, new long[3 * 8]);
        sum = with(sum, 4, 2, 19782 - 719529, 1);
        new Run("54 digest")
            .call("of(0, 2024, 2, 29)").call("of(1, -1, 12, 31)").call("span(0, 1, 2, 3)").call("span(1, -4, -5, -6)")
            .call("knock()").call("knock()").due("digest()", sum);
    }

    private static long with(long before, long... values) {
        long sum = before;
        for (long value : values) {
            sum = sum * 31 + value;
        }
        return sum;
    }
}
