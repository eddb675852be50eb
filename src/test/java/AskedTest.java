/** Promises 28 to 41: what is asked of a date. */
public final class AskedTest {
    public static void main(String[] args) {
        yearMonthDay();
        dayOfYear();
        dayOfWeek();
        laterDayOfWeek();
        lengths();
        field();
        toDay();
        text();
        isDate();
        wouldBe();
        noSuchPlace();
        Run.end();
    }

    private static void yearMonthDay() {
        new Run("28 year, 29 month, 30 day")
            .call("of(0, 2024, 2, 29)").due("year(0)", 2024).due("month(0)", 2).due("day(0)", 29)
            .call("of(0, -9999, 1, 1)").due("year(0)", -9999).due("month(0)", 1).due("day(0)", 1)
            .call("of(0, 9999, 12, 31)").due("year(0)", 9999).due("month(0)", 12).due("day(0)", 31)
            .call("of(0, 0, 7, 4)").due("year(0)", 0).due("month(0)", 7).due("day(0)", 4)
            .call("of(0, -1, 7, 4)").due("year(0)", -1).due("month(0)", 7).due("day(0)", 4)
            .due("year(5)", 1970).due("month(5)", 1).due("day(5)", 1).due("house(0)", 5);
    }

    private static void dayOfYear() {
        Run run = new Run("31 dayOfYear");
        int[] ends = {31, 59, 90, 120, 151, 181, 212, 243, 273, 304, 334, 365};
        for (int month = 1; month <= 12; month++) {
            run.call("of(0, 2023, " + month + ", 1)").call("toLast(0)").due("dayOfYear(0)", ends[month - 1]);
            run.call("of(0, -4, " + month + ", 1)").call("toLast(0)").due("dayOfYear(0)", ends[month - 1] + (month > 1 ? 1 : 0));
        }
        run.due("dayOfYear(1)", 1).call("of(0, 2024, 3, 1)").due("dayOfYear(0)", 61);
    }

    private static void dayOfWeek() {
        Run run = new Run("32 dayOfWeek");
        for (int number = -14; number <= 14; number++) {
            run.call("ofDay(0, " + number + ")").due("dayOfWeek(0)", (number + 14 + 3) % 7 + 1);
        }
        run.call("ofDay(0, -4371587)").due("dayOfWeek(0)", 1).call("ofDay(0, 2932896)").due("dayOfWeek(0)", 5)
            .call("of(0, 2024, 2, 29)").due("dayOfWeek(0)", 4).due("dayOfWeek(5)", 4);
    }

    private static void laterDayOfWeek() {
        new Run("33 laterDayOfWeek")
            .due("laterDayOfWeek(0, 0)", 4).due("laterDayOfWeek(0, 3)", 7).due("laterDayOfWeek(0, 4)", 1)
            .due("laterDayOfWeek(0, -3)", 1).due("laterDayOfWeek(0, -4)", 7).due("laterDayOfWeek(0, 7)", 4)
            .due("laterDayOfWeek(0, -700)", 4).due("laterDayOfWeek(0, 200000)", 7).due("laterDayOfWeek(0, -200000)", 1)
            .call("ofDay(1, 2932896)").due("laterDayOfWeek(1, 1)", 6).due("laterDayOfWeek(1, 200000)", 1)
            .call("ofDay(2, -4371587)").due("laterDayOfWeek(2, -1)", 7).due("laterDayOfWeek(2, -200000)", 5)
            .due("toDay(2)", -4371587).due("house(0)", 2)
            .refused("laterDayOfWeek(6, 0)", Calls.INDEX).refused("laterDayOfWeek(-1, 200001)", Calls.INDEX)
            .refused("laterDayOfWeek(2, 200001)", Calls.ARGUMENT).refused("laterDayOfWeek(1, -200001)", Calls.ARGUMENT)
            .refused("laterDayOfWeek(1, -2147483648)", Calls.ARGUMENT);
    }

    private static void lengths() {
        Run run = new Run("34 lengthOfMonth, 35 lengthOfYear, 36 isLeapYear");
        int[] lengths = {31, 28, 31, 30, 31, 30, 31, 31, 30, 31, 30, 31};
        for (int month = 1; month <= 12; month++) {
            run.call("of(0, 2023, " + month + ", 7)").due("lengthOfMonth(0)", lengths[month - 1]);
            run.call("of(0, 2024, " + month + ", 7)").due("lengthOfMonth(0)", month == 2 ? 29 : lengths[month - 1]);
        }
        int[] leapYears = {2024, 2000, 2400, 400, 4, 0, -4, -400, -9996, 9996, -2000};
        int[] otherYears = {2023, 2022, 2021, 1900, 2100, 100, 200, 1, -1, -2, -3, -100, -300, -9999, 9999, -9900};
        for (int year : leapYears) {
            run.call("of(0, " + year + ", 2, 28)").due("lengthOfMonth(0)", 29).due("lengthOfYear(0)", 366).due("isLeapYear(0)", true);
        }
        for (int year : otherYears) {
            run.call("of(0, " + year + ", 2, 28)").due("lengthOfMonth(0)", 28).due("lengthOfYear(0)", 365).due("isLeapYear(0)", false);
        }
    }

    private static void field() {
        new Run("37 field")
            .call("of(0, 2024, 2, 29)")
            .due("field(0, 0)", 1).due("field(0, 1)", 5).due("field(0, 2)", 4).due("field(0, 3)", 9)
            .due("field(0, 4)", 2024).due("field(0, 5)", 1)
            .call("of(0, 2024, 3, 7)").due("field(0, 0)", 7).due("field(0, 1)", 1).due("field(0, 2)", 4).due("field(0, 3)", 10)
            .call("of(0, 2024, 3, 8)").due("field(0, 0)", 1).due("field(0, 1)", 2)
            .call("of(0, 2024, 12, 31)").due("field(0, 0)", 3).due("field(0, 1)", 5).due("field(0, 2)", 2).due("field(0, 3)", 53)
            .call("of(0, 1, 1, 1)").due("field(0, 0)", 1).due("field(0, 1)", 1).due("field(0, 2)", 1).due("field(0, 3)", 1)
            .due("field(0, 4)", 1).due("field(0, 5)", 1)
            .call("of(0, 0, 1, 7)").due("field(0, 2)", 7).due("field(0, 3)", 1).due("field(0, 4)", 1).due("field(0, 5)", 0)
            .call("of(0, -1, 1, 8)").due("field(0, 2)", 1).due("field(0, 3)", 2).due("field(0, 4)", 2).due("field(0, 5)", 0)
            .call("of(0, -9999, 1, 8)").due("field(0, 4)", 10000).due("field(0, 5)", 0)
            .refused("field(6, 0)", Calls.INDEX).refused("field(-1, 6)", Calls.INDEX)
            .refused("field(0, 6)", Calls.ARGUMENT).refused("field(0, -1)", Calls.ARGUMENT);
    }

    private static void toDay() {
        new Run("38 toDay")
            .due("toDay(3)", 0)
            .call("of(0, -9999, 1, 1)").due("toDay(0)", -4371587)
            .call("of(0, 9999, 12, 31)").due("toDay(0)", 2932896)
            .call("of(0, 2000, 3, 1)").due("toDay(0)", 11017)
            .call("of(0, 1900, 3, 1)").due("toDay(0)", -25508)
            .call("of(0, 400, 1, 1)").due("toDay(0)", -573431)
            .call("of(0, -400, 2, 29)").due("toDay(0)", -865566);
    }

    private static void text() {
        new Run("39 text")
            .call("of(0, 33, 2, 9)").due("text(0)", "0033-02-09")
            .call("of(0, 0, 1, 1)").due("text(0)", "0000-01-01")
            .call("of(0, 9, 10, 10)").due("text(0)", "0009-10-10")
            .call("of(0, 10, 9, 9)").due("text(0)", "0010-09-09")
            .call("of(0, 999, 12, 31)").due("text(0)", "0999-12-31")
            .call("of(0, 100, 11, 30)").due("text(0)", "0100-11-30")
            .call("of(0, 1000, 1, 20)").due("text(0)", "1000-01-20")
            .call("of(0, 9999, 12, 31)").due("text(0)", "9999-12-31")
            .call("of(0, -1, 12, 31)").due("text(0)", "?")
            .call("of(0, -9999, 1, 1)").due("text(0)", "?");
    }

    private static void isDate() {
        new Run("40 isDate")
            .due("isDate(2024, 2, 29)", true).due("isDate(2023, 2, 29)", false).due("isDate(2023, 2, 28)", true)
            .due("isDate(1900, 2, 29)", false).due("isDate(2000, 2, 29)", true).due("isDate(2024, 2, 30)", false)
            .due("isDate(0, 2, 29)", true).due("isDate(-4, 2, 29)", true).due("isDate(-100, 2, 29)", false)
            .due("isDate(2023, 1, 31)", true).due("isDate(2023, 4, 31)", false).due("isDate(2023, 4, 30)", true)
            .due("isDate(2023, 6, 31)", false).due("isDate(2023, 9, 31)", false).due("isDate(2023, 11, 31)", false)
            .due("isDate(2023, 12, 31)", true).due("isDate(2023, 7, 31)", true).due("isDate(2023, 8, 31)", true)
            .due("isDate(9999, 12, 31)", true).due("isDate(-9999, 1, 1)", true).due("house(0)", 0)
            .refused("isDate(10000, 1, 1)", Calls.ARGUMENT).refused("isDate(-10000, 1, 1)", Calls.ARGUMENT)
            .refused("isDate(0, 0, 1)", Calls.ARGUMENT).refused("isDate(0, 13, 1)", Calls.ARGUMENT)
            .refused("isDate(0, 1, 0)", Calls.ARGUMENT).refused("isDate(0, 2, 32)", Calls.ARGUMENT);
    }

    private static void wouldBe() {
        new Run("41 wouldBe")
            .call("of(0, 2024, 2, 29)")
            .due("wouldBe(0, 0, 1)", 19783).due("wouldBe(0, 1, -2)", 19768).due("wouldBe(0, 2, 12)", 20147)
            .due("wouldBe(0, 3, 4)", 21243).due("wouldBe(0, 4, -2)", 12477).due("wouldBe(0, 5, 1)", 56306)
            .due("wouldBe(0, 6, -2)", -710703).due("wouldBe(0, 6, 0)", 19782)
            .due("text(0)", "2024-02-29").due("house(0)", 1)
            .refused("wouldBe(6, 0, 0)", Calls.INDEX).refused("wouldBe(-1, 7, 200001)", Calls.INDEX)
            .refused("wouldBe(0, 7, 0)", Calls.ARGUMENT).refused("wouldBe(0, -1, 0)", Calls.ARGUMENT)
            .refused("wouldBe(0, 0, 200001)", Calls.ARGUMENT).refused("wouldBe(0, 6, -200001)", Calls.ARGUMENT)
            .refused("wouldBe(0, 3, 7976)", Calls.STATE).refused("wouldBe(0, 4, 798)", Calls.STATE)
            .refused("wouldBe(0, 5, -121)", Calls.STATE).refused("wouldBe(0, 6, 8)", Calls.STATE)
            .due("wouldBe(0, 3, 7975)", 2932590).due("wouldBe(0, 6, 7)", 2576479)
            // So many YEARS that 32 bits would not hold their MONTHS.
            .refused("wouldBe(0, 6, 200000)", Calls.STATE).refused("wouldBe(0, 6, -200000)", Calls.STATE)
            .refused("wouldBe(0, 6, 178957)", Calls.STATE).refused("wouldBe(0, 6, 178956)", Calls.STATE)
            .refused("wouldBe(0, 5, 200000)", Calls.STATE).refused("wouldBe(0, 4, -200000)", Calls.STATE)
            .call("ofDay(1, 2932896)").refused("wouldBe(1, 0, 1)", Calls.STATE).refused("wouldBe(1, 1, 1)", Calls.STATE)
            .refused("wouldBe(1, 2, 1)", Calls.STATE).due("wouldBe(1, 0, 0)", 2932896)
            .call("ofDay(1, -4371587)").refused("wouldBe(1, 0, -1)", Calls.STATE).refused("wouldBe(1, 2, -1)", Calls.STATE);
    }

    private static void noSuchPlace() {
        String[] names = {"year", "month", "day", "dayOfYear", "dayOfWeek", "lengthOfMonth", "lengthOfYear", "isLeapYear", "toDay", "text"};
        for (String name : names) {
            new Run(name + ": refused")
                .refused(name + "(6)", Calls.INDEX).refused(name + "(-1)", Calls.INDEX)
                .refused(name + "(2147483647)", Calls.INDEX).refused(name + "(-2147483648)", Calls.INDEX);
        }
    }
}
