/** The boundary cases of section 1 of the document: a test for each of its sentences. */
public final class DatesEdgesTest {
    private static final int[] MONTH_LENGTHS = {31, 28, 31, 30, 31, 30, 31, 31, 30, 31, 30, 31};
    private static final int[] LEAP_YEARS = {
        0, -4, -8, -96, -104, -400, -404, -800, -2000, -9600, -9996, 4, 8, 96, 104, 400, 800, 1600, 1896, 1904, 1972, 2000,
        2020, 2024, 2400, 9600, 9996};
    private static final int[] OTHER_YEARS = {
        -1, -2, -3, -5, -99, -100, -101, -200, -300, -399, -401, -500, -9700, -9900, -9997, -9998, -9999, 1, 2, 3, 5, 99, 100,
        101, 200, 300, 399, 401, 500, 1700, 1800, 1900, 1970, 1999, 2001, 2023, 2100, 2200, 2300, 9700, 9800, 9900, 9998, 9999};

    public static void main(String[] args) {
        yearsFromFirstToLast();
        yearZeroIsBetween();
        monthsFrom1To12();
        daysOfEachMonth();
        leapYears();
        otherYears();
        dayOfTheYear();
        dayOfTheYearAtTheLeapDay();
        dayNumberGrowsByOne();
        firstAndLastDayNumber();
        dayOfTheWeek();
        dayOfTheWeekWhereThereIsNoDate();
        roundsOfTheMonth();
        roundsOfTheYear();
        eras();
        placesAtFirst();
        textHasZerosAhead();
        textOfYearsBelowZero();
        Run.end();
    }

    private static void yearsFromFirstToLast() {
        new Run("the YEARS -9999 and 9999")
            .due("of(0, -9999, 12, 31)", -4371223).due("year(0)", -9999).refused("of(0, -10000, 12, 31)", Calls.ARGUMENT)
            .due("of(0, 9999, 1, 1)", 2932532).due("year(0)", 9999).refused("of(0, 10000, 1, 1)", Calls.ARGUMENT)
            .due("ofYearDay(0, -9999, 365)", -4371223).refused("ofYearDay(0, -10000, 365)", Calls.ARGUMENT)
            .due("ofYearDay(0, 9999, 1)", 2932532).refused("ofYearDay(0, 10000, 1)", Calls.ARGUMENT)
            .due("withYear(0, -9999)", -4371587).refused("withYear(0, -10000)", Calls.ARGUMENT)
            .due("withYear(0, 9999)", 2932532).refused("withYear(0, 10000)", Calls.ARGUMENT)
            .asked("sameDay(0, -9999)", -4371587).refused("sameDay(0, -10000)", Calls.ARGUMENT)
            .asked("sameDay(0, 9999)", 2932532).refused("sameDay(0, 10000)", Calls.ARGUMENT)
            .asked("isDate(-9999, 1, 1)", true).refused("isDate(-10000, 1, 1)", Calls.ARGUMENT)
            .asked("isDate(9999, 12, 31)", true).refused("isDate(10000, 12, 31)", Calls.ARGUMENT);
    }

    private static void yearZeroIsBetween() {
        new Run("the YEAR 0 is ahead of 1 and behind -1")
            .due("of(0, -1, 12, 31)", -719529).due("of(1, 0, 1, 1)", -719528)
            .due("of(2, 0, 12, 31)", -719163).due("of(3, 1, 1, 1)", -719162)
            .due("isBefore(0, 1)", true).due("isBefore(2, 3)", true).due("compare(3, 2)", 1).due("compare(0, 3)", -1)
            .due("plusDays(0, 1)", -719528).due("year(0)", 0).due("isSame(0, 1)", true)
            .due("minusDays(0, 1)", -719529).due("year(0)", -1).due("month(0)", 12).due("day(0)", 31)
            .due("plusDays(2, 1)", -719162).due("year(2)", 1)
            .due("minusDays(2, 1)", -719163).due("year(2)", 0)
            .due("plusYears(3, -1)", -719528).due("year(3)", 0).due("plusYears(3, -1)", -719893).due("year(3)", -1)
            .due("lengthOfYear(1)", 366).due("withYear(3, 0)", -719528).due("withYear(3, 1)", -719162);
    }

    private static void monthsFrom1To12() {
        new Run("the MONTHS 1 and 12")
            .due("of(0, 2023, 1, 1)", 19358).due("month(0)", 1).refused("of(0, 2023, 0, 1)", Calls.ARGUMENT)
            .due("of(0, 2023, 12, 1)", 19692).due("month(0)", 12).refused("of(0, 2023, 13, 1)", Calls.ARGUMENT)
            .due("withMonth(0, 1)", 19358).refused("withMonth(0, 0)", Calls.ARGUMENT)
            .due("withMonth(0, 12)", 19692).refused("withMonth(0, 13)", Calls.ARGUMENT)
            .asked("isDate(2023, 1, 1)", true).refused("isDate(2023, 0, 1)", Calls.ARGUMENT)
            .asked("isDate(2023, 12, 1)", true).refused("isDate(2023, 13, 1)", Calls.ARGUMENT);
    }

    private static void daysOfEachMonth() {
        for (int month = 1; month <= 12; month++) {
            int days = MONTH_LENGTHS[month - 1];
            daysOfMonth("2023", month, days);
            daysOfMonth("2024", month, month == 2 ? 29 : days);
            daysOfMonth("-1", month, days);
            daysOfMonth("0", month, month == 2 ? 29 : days);
        }
    }

    private static void daysOfMonth(String year, int month, int days) {
        String ahead = year + ", " + month + ", ";
        String exception = days == 31 ? Calls.ARGUMENT : Calls.STATE;
        new Run("the DAYS of " + year + ", " + month)
            .call("of(0, " + ahead + "1)").due("day(0)", 1).due("lengthOfMonth(0)", days)
            .call("withDay(0, " + days + ")").due("day(0)", days).due("month(0)", month)
            .refused("withDay(0, " + (days + 1) + ")", exception).refused("withDay(0, 0)", Calls.ARGUMENT)
            .call("of(0, " + ahead + days + ")").due("day(0)", days).due("month(0)", month)
            .refused("of(0, " + ahead + (days + 1) + ")", exception).refused("of(0, " + ahead + "0)", Calls.ARGUMENT)
            .asked("isDate(" + ahead + days + ")", true).due("isDate(" + ahead + (days + 1) + ")", days == 31 ? Calls.ARGUMENT : false)
            .asked("isDate(" + ahead + "1)", true).refused("isDate(" + ahead + "0)", Calls.ARGUMENT)
            .call("toFirst(0)").due("day(0)", 1).call("toLast(0)").due("day(0)", days)
            .call("plusDays(0, 1)").due("day(0)", 1).due("month(0)", month % 12 + 1)
            .call("minusDays(0, 1)").due("day(0)", days).due("month(0)", month);
    }

    private static void leapYears() {
        for (int year : LEAP_YEARS) {
            new Run("the LEAP YEAR " + year)
                .call("of(0, " + year + ", 2, 29)").due("day(0)", 29).due("dayOfYear(0)", 60)
                .due("isLeapYear(0)", true).due("lengthOfYear(0)", 366).due("lengthOfMonth(0)", 29)
                .call("ofYearDay(0, " + year + ", 366)").due("month(0)", 12).due("day(0)", 31)
                .refused("ofYearDay(0, " + year + ", 367)", Calls.ARGUMENT)
                .call("withDayOfYear(0, 366)").refused("withDayOfYear(0, 367)", Calls.ARGUMENT)
                .call("of(0, " + year + ", 1, 1)").due("daysToYearEnd(0)", 365)
                .asked("isDate(" + year + ", 2, 29)", true).asked("isDate(" + year + ", 2, 30)", false)
                .call("of(0, " + year + ", 2, 28)").call("withDay(0, 29)").refused("withDay(0, 30)", Calls.STATE)
                .refused("of(0, " + year + ", 2, 30)", Calls.STATE);
        }
    }

    private static void otherYears() {
        for (int year : OTHER_YEARS) {
            new Run("the YEAR " + year + ", which is no LEAP YEAR")
                .call("of(0, " + year + ", 2, 28)").due("day(0)", 28).due("dayOfYear(0)", 59)
                .due("isLeapYear(0)", false).due("lengthOfYear(0)", 365).due("lengthOfMonth(0)", 28)
                .refused("of(0, " + year + ", 2, 29)", Calls.STATE).refused("withDay(0, 29)", Calls.STATE)
                .call("ofYearDay(0, " + year + ", 365)").due("month(0)", 12).due("day(0)", 31)
                .refused("ofYearDay(0, " + year + ", 366)", Calls.STATE).refused("ofYearDay(0, " + year + ", 367)", Calls.ARGUMENT)
                .call("withDayOfYear(0, 365)").refused("withDayOfYear(0, 366)", Calls.STATE)
                .refused("withDayOfYear(0, 367)", Calls.ARGUMENT)
                .call("of(0, " + year + ", 1, 1)").due("daysToYearEnd(0)", 364)
                .asked("isDate(" + year + ", 2, 28)", true).asked("isDate(" + year + ", 2, 29)", false);
        }
    }

    private static void dayOfTheYear() {
        new Run("DAY OF THE YEAR: 1, and 365 or 366")
            .call("of(0, 2023, 1, 1)").due("dayOfYear(0)", 1).due("daysToYearEnd(0)", 364)
            .call("of(0, 2023, 12, 31)").due("dayOfYear(0)", 365).due("daysToYearEnd(0)", 0)
            .call("plusDays(0, 1)").due("dayOfYear(0)", 1).due("daysToYearEnd(0)", 365)
            .call("of(0, 2024, 12, 31)").due("dayOfYear(0)", 366).due("daysToYearEnd(0)", 0)
            .call("plusDays(0, 1)").due("dayOfYear(0)", 1).due("year(0)", 2025)
            .refused("ofYearDay(0, 2024, 0)", Calls.ARGUMENT).refused("withDayOfYear(0, 0)", Calls.ARGUMENT)
            .call("ofYearDay(0, 2024, 1)").due("text(0)", "2024-01-01")
            .call("withDayOfYear(0, 366)").due("text(0)", "2024-12-31").call("withDayOfYear(0, 1)").due("text(0)", "2024-01-01")
            .call("of(0, 9999, 12, 31)").due("daysToYearEnd(0)", 0).due("dayOfYear(0)", 365)
            .call("of(0, -9999, 1, 1)").due("daysToYearEnd(0)", 364).due("dayOfYear(0)", 1);
    }

    private static void dayOfTheYearAtTheLeapDay() {
        new Run("DAY OF THE YEAR about the 29th day of the MONTH 2")
            .call("ofYearDay(0, 2024, 59)").due("text(0)", "2024-02-28").due("dayOfYear(0)", 59)
            .call("ofYearDay(0, 2024, 60)").due("text(0)", "2024-02-29").due("dayOfYear(0)", 60)
            .call("ofYearDay(0, 2024, 61)").due("text(0)", "2024-03-01").due("dayOfYear(0)", 61)
            .call("ofYearDay(0, 2023, 59)").due("text(0)", "2023-02-28").due("dayOfYear(0)", 59)
            .call("ofYearDay(0, 2023, 60)").due("text(0)", "2023-03-01").due("dayOfYear(0)", 60)
            .call("withDayOfYear(0, 59)").due("text(0)", "2023-02-28");
    }

    private static void dayNumberGrowsByOne() {
        new Run("DAY NUMBER: 0 is 1970-01-01, and that of the day behind is 1 more")
            .due("of(0, 1970, 1, 1)", 0).due("toDay(0)", 0).due("of(0, 1970, 1, 2)", 1).due("of(0, 1969, 12, 31)", -1)
            .due("ofDay(0, 0)", 0).due("text(0)", "1970-01-01").due("ofDay(0, 1)", 1).due("text(0)", "1970-01-02")
            .due("ofDay(0, -1)", -1).due("text(0)", "1969-12-31")
            .due("of(0, 2023, 12, 31)", 19722).due("of(0, 2024, 1, 1)", 19723)
            .due("of(0, 2024, 2, 28)", 19781).due("of(0, 2024, 2, 29)", 19782).due("of(0, 2024, 3, 1)", 19783)
            .due("of(0, 1900, 2, 28)", -25509).due("of(0, 1900, 3, 1)", -25508)
            .due("of(0, 0, 2, 29)", -719469).due("of(0, 0, 3, 1)", -719468)
            .due("of(0, -100, 2, 28)", -755994).due("of(0, -100, 3, 1)", -755993)
            .due("ofDay(0, 46386)", 46386).due("text(0)", "2096-12-31").due("ofDay(0, 46387)", 46387).due("text(0)", "2097-01-01");
    }

    private static void firstAndLastDayNumber() {
        new Run("the DAY NUMBERS -4371587 and 2932896")
            .due("of(0, -9999, 1, 1)", -4371587).due("ofDay(1, -4371587)", -4371587).due("isSame(0, 1)", true)
            .due("year(1)", -9999).due("month(1)", 1).due("day(1)", 1)
            .refused("ofDay(1, -4371588)", Calls.ARGUMENT).due("ofDay(1, -4371586)", -4371586).due("day(1)", 2)
            .due("of(0, 9999, 12, 31)", 2932896).due("ofDay(1, 2932896)", 2932896).due("isSame(0, 1)", true)
            .due("text(1)", "9999-12-31")
            .refused("ofDay(1, 2932897)", Calls.ARGUMENT).due("ofDay(1, 2932895)", 2932895).due("text(1)", "9999-12-30")
            .refused("ofDay(1, -2147483648)", Calls.ARGUMENT).refused("ofDay(1, 2147483647)", Calls.ARGUMENT);
    }

    private static void dayOfTheWeek() {
        new Run("DAY OF THE WEEK: 4 at 0, and 1 behind 7")
            .due("dayOfWeek(0)", 4)
            .call("ofDay(0, 3)").due("dayOfWeek(0)", 7).call("ofDay(0, 4)").due("dayOfWeek(0)", 1)
            .call("ofDay(0, -3)").due("dayOfWeek(0)", 1).call("ofDay(0, -4)").due("dayOfWeek(0)", 7)
            .call("ofDay(0, -5)").due("dayOfWeek(0)", 6).call("ofDay(0, -1)").due("dayOfWeek(0)", 3)
            .call("ofDay(0, -4371587)").due("dayOfWeek(0)", 1).call("ofDay(0, -4371581)").due("dayOfWeek(0)", 7)
            .call("ofDay(0, -4371580)").due("dayOfWeek(0)", 1)
            .call("ofDay(0, 2932896)").due("dayOfWeek(0)", 5).call("ofDay(0, 2932891)").due("dayOfWeek(0)", 7)
            .call("ofDay(0, 2932892)").due("dayOfWeek(0)", 1);
    }

    private static void dayOfTheWeekWhereThereIsNoDate() {
        new Run("DAY OF THE WEEK behind the last DATE and ahead of the first one")
            .call("ofDay(0, 2932896)").asked("laterDayOfWeek(0, 0)", 5).asked("laterDayOfWeek(0, 1)", 6)
            .asked("laterDayOfWeek(0, 2)", 7).asked("laterDayOfWeek(0, 3)", 1).asked("laterDayOfWeek(0, 200000)", 1)
            .call("ofDay(0, -4371587)").asked("laterDayOfWeek(0, -1)", 7).asked("laterDayOfWeek(0, -2)", 6)
            .asked("laterDayOfWeek(0, -7)", 1).asked("laterDayOfWeek(0, -200000)", 5)
            .refused("laterDayOfWeek(0, -200001)", Calls.ARGUMENT).refused("laterDayOfWeek(0, 200001)", Calls.ARGUMENT);
    }

    private static void roundsOfTheMonth() {
        round("2024, 1, 1", 1, 1);
        round("2024, 1, 7", 7, 1);
        round("2024, 1, 8", 1, 2);
        round("2024, 1, 14", 7, 2);
        round("2024, 1, 15", 1, 3);
        round("2024, 1, 21", 7, 3);
        round("2024, 1, 22", 1, 4);
        round("2024, 1, 28", 7, 4);
        round("2024, 1, 29", 1, 5);
        round("2024, 1, 31", 3, 5);
        round("2024, 2, 1", 1, 1);
        round("2024, 2, 29", 1, 5);
        round("2023, 2, 28", 7, 4);
        round("-9999, 1, 1", 1, 1);
        round("9999, 12, 31", 3, 5);
    }

    private static void round(String date, int place, int round) {
        new Run("ROUNDS of the MONTH: " + date).call("of(0, " + date + ")").asked("field(0, 0)", place).asked("field(0, 1)", round);
    }

    private static void roundsOfTheYear() {
        yearRound(2023, 1, 1, 1);
        yearRound(2023, 7, 7, 1);
        yearRound(2023, 8, 1, 2);
        yearRound(2023, 14, 7, 2);
        yearRound(2023, 32, 4, 5);
        yearRound(2023, 357, 7, 51);
        yearRound(2023, 358, 1, 52);
        yearRound(2023, 364, 7, 52);
        yearRound(2023, 365, 1, 53);
        yearRound(2024, 365, 1, 53);
        yearRound(2024, 366, 2, 53);
        yearRound(-9999, 1, 1, 1);
        yearRound(9999, 365, 1, 53);
    }

    private static void yearRound(int year, int day, int place, int round) {
        new Run("ROUNDS of the YEAR: " + year + ", " + day).call("ofYearDay(0, " + year + ", " + day + ")")
            .asked("field(0, 2)", place).asked("field(0, 3)", round);
    }

    private static void eras() {
        era(9999, 9999, 1);
        era(2, 2, 1);
        era(1, 1, 1);
        era(0, 1, 0);
        era(-1, 2, 0);
        era(-2, 3, 0);
        era(-9998, 9999, 0);
        era(-9999, 10000, 0);
    }

    private static void era(int year, int yearOfTheEra, int era) {
        new Run("the ERA of " + year)
            .call("of(0, " + year + ", 1, 1)").asked("field(0, 4)", yearOfTheEra).asked("field(0, 5)", era)
            .call("of(0, " + year + ", 12, 31)").asked("field(0, 4)", yearOfTheEra).asked("field(0, 5)", era);
    }

    private static void placesAtFirst() {
        Run run = new Run("the PLACES 0 to 5, at first");
        for (int place = 0; place <= 5; place++) {
            run.asked("toDay(" + place + ")", 0).asked("text(" + place + ")", "1970-01-01");
        }
        run.refused("toDay(-1)", Calls.INDEX).refused("toDay(6)", Calls.INDEX);
        run.refused("ofDay(-1, 0)", Calls.INDEX).refused("ofDay(6, 0)", Calls.INDEX);
        for (int place = 0; place <= 5; place++) {
            run.due("ofDay(" + place + ", " + (place + 1) + ")", place + 1);
        }
        for (int place = 0; place <= 5; place++) {
            run.due("toDay(" + place + ")", place + 1);
        }
    }

    private static void textHasZerosAhead() {
        text("0, 1, 1", "0000-01-01");
        text("1, 9, 9", "0001-09-09");
        text("9, 10, 10", "0009-10-10");
        text("10, 9, 10", "0010-09-10");
        text("33, 2, 9", "0033-02-09");
        text("99, 10, 9", "0099-10-09");
        text("100, 12, 31", "0100-12-31");
        text("999, 1, 31", "0999-01-31");
        text("1000, 1, 1", "1000-01-01");
        text("9999, 12, 31", "9999-12-31");
    }

    private static void textOfYearsBelowZero() {
        text("0, 1, 1", "0000-01-01");
        text("-1, 12, 31", "?");
        text("-1, 1, 1", "?");
        text("-10, 1, 1", "?");
        text("-2024, 2, 29", "?");
        text("-9999, 1, 1", "?");
    }

    private static void text(String date, String want) {
        new Run("the text of " + date).call("of(0, " + date + ")").asked("text(0)", want);
    }
}
