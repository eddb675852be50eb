/** The boundary cases of section 4 of the document, and of promise 46: a test for each sentence. */
public final class UnitsEdgesTest {
    private static final int DAYS = 0;
    private static final int WEEKS = 1;
    private static final int MONTHS = 2;
    private static final int YEARS = 3;
    private static final int TENS = 4;
    private static final int HUNDREDS = 5;
    private static final int THOUSANDS = 6;

    public static void main(String[] args) {
        days();
        weeks();
        months();
        monthsAboutTheEndOfAMonth();
        monthsFromADateBehind();
        years();
        yearsFromTheLeapDay();
        tens();
        hundreds();
        thousands();
        noneToTheSameDate();
        fromTheFirstToTheLast();
        aDateTenYearsOn();
        unitsFrom0To6();
        Run.end();
    }

    /** FROM the first DATE TO the second, which is not ahead of it; back again 0 less as many are due. */
    private static void between(String first, String second, int unit, int want) {
        new Run("UNIT " + unit + " from " + first + " to " + second)
            .call("of(0, " + first + ")").call("of(5, " + second + ")")
            .asked("between(0, 5, " + unit + ")", want).asked("between(5, 0, " + unit + ")", -want);
    }

    private static void days() {
        between("2024, 2, 28", "2024, 2, 29", DAYS, 1);
        between("2024, 2, 28", "2024, 3, 1", DAYS, 2);
        between("2023, 2, 28", "2023, 3, 1", DAYS, 1);
        between("2023, 12, 31", "2024, 1, 1", DAYS, 1);
        between("-1, 12, 31", "0, 1, 1", DAYS, 1);
        between("0, 12, 31", "1, 1, 1", DAYS, 1);
        between("0, 1, 1", "1, 1, 1", DAYS, 366);
        between("-1, 1, 1", "0, 1, 1", DAYS, 365);
    }

    private static void weeks() {
        between("2024, 2, 23", "2024, 2, 29", WEEKS, 0);
        between("2024, 2, 22", "2024, 2, 29", WEEKS, 1);
        between("2024, 2, 21", "2024, 2, 29", WEEKS, 1);
        between("2024, 2, 16", "2024, 2, 29", WEEKS, 1);
        between("2024, 2, 15", "2024, 2, 29", WEEKS, 2);
        between("1969, 12, 31", "1970, 1, 6", WEEKS, 0);
        between("1969, 12, 31", "1970, 1, 7", WEEKS, 1);
    }

    private static void months() {
        between("2023, 5, 15", "2023, 6, 14", MONTHS, 0);
        between("2023, 5, 15", "2023, 6, 15", MONTHS, 1);
        between("2023, 5, 15", "2023, 7, 14", MONTHS, 1);
        between("2023, 5, 15", "2024, 5, 14", MONTHS, 11);
        between("2023, 5, 15", "2024, 5, 15", MONTHS, 12);
        between("2023, 12, 31", "2024, 1, 30", MONTHS, 0);
        between("2023, 12, 31", "2024, 1, 31", MONTHS, 1);
        between("-1, 12, 1", "0, 1, 1", MONTHS, 1);
        between("-1, 12, 2", "0, 1, 1", MONTHS, 0);
    }

    private static void monthsAboutTheEndOfAMonth() {
        between("2023, 1, 31", "2023, 2, 28", MONTHS, 0);
        between("2023, 1, 31", "2023, 3, 1", MONTHS, 1);
        between("2023, 1, 28", "2023, 2, 28", MONTHS, 1);
        between("2023, 1, 29", "2023, 2, 28", MONTHS, 0);
        between("2024, 1, 29", "2024, 2, 29", MONTHS, 1);
        between("2024, 1, 30", "2024, 2, 29", MONTHS, 0);
    }

    private static void monthsFromADateBehind() {
        new Run("FROM a DATE TO one ahead of it: 0 less how many there are back")
            .call("of(0, 2023, 3, 30)").call("of(1, 2023, 2, 28)").asked("between(0, 1, 2)", -1)
            .call("of(0, 2023, 3, 28)").asked("between(0, 1, 2)", -1)
            .call("of(0, 2023, 3, 27)").asked("between(0, 1, 2)", 0)
            .call("of(0, 2023, 3, 6)").asked("between(0, 1, 1)", 0).call("of(0, 2023, 3, 7)").asked("between(0, 1, 1)", -1)
            .call("of(0, 2023, 3, 13)").asked("between(0, 1, 1)", -1).call("of(0, 2023, 3, 14)").asked("between(0, 1, 1)", -2)
            .call("of(0, 2024, 2, 27)").asked("between(0, 1, 3)", 0).call("of(0, 2024, 2, 28)").asked("between(0, 1, 3)", -1);
    }

    private static void years() {
        between("2023, 5, 15", "2024, 5, 14", YEARS, 0);
        between("2023, 5, 15", "2024, 5, 15", YEARS, 1);
        between("2023, 5, 15", "2025, 5, 14", YEARS, 1);
        between("2023, 5, 15", "2024, 4, 30", YEARS, 0);
        between("-1, 5, 15", "1, 5, 14", YEARS, 1);
        between("-1, 5, 15", "1, 5, 15", YEARS, 2);
    }

    private static void yearsFromTheLeapDay() {
        between("2020, 2, 29", "2021, 2, 28", YEARS, 0);
        between("2020, 2, 29", "2021, 3, 1", YEARS, 1);
        between("2020, 2, 29", "2024, 2, 28", YEARS, 3);
        between("2020, 2, 29", "2024, 2, 29", YEARS, 4);
        between("2019, 2, 28", "2020, 2, 28", YEARS, 1);
    }

    private static void tens() {
        between("2014, 5, 15", "2024, 5, 14", TENS, 0);
        between("2014, 5, 15", "2024, 5, 15", TENS, 1);
        between("2014, 5, 15", "2034, 5, 14", TENS, 1);
        between("-5, 1, 1", "4, 12, 31", TENS, 0);
        between("-5, 1, 1", "5, 1, 1", TENS, 1);
    }

    private static void hundreds() {
        between("1924, 5, 15", "2024, 5, 14", HUNDREDS, 0);
        between("1924, 5, 15", "2024, 5, 15", HUNDREDS, 1);
        between("1924, 5, 15", "2124, 5, 14", HUNDREDS, 1);
        between("-50, 1, 1", "49, 12, 31", HUNDREDS, 0);
        between("-50, 1, 1", "50, 1, 1", HUNDREDS, 1);
    }

    private static void thousands() {
        between("1024, 5, 15", "2024, 5, 14", THOUSANDS, 0);
        between("1024, 5, 15", "2024, 5, 15", THOUSANDS, 1);
        between("1024, 5, 15", "3024, 5, 14", THOUSANDS, 1);
        between("-500, 1, 1", "499, 12, 31", THOUSANDS, 0);
        between("-500, 1, 1", "500, 1, 1", THOUSANDS, 1);
    }

    private static void noneToTheSameDate() {
        for (int unit = DAYS; unit <= THOUSANDS; unit++) {
            between("2024, 2, 29", "2024, 2, 29", unit, 0);
            between("-9999, 1, 1", "-9999, 1, 1", unit, 0);
            between("9999, 12, 31", "9999, 12, 31", unit, 0);
            new Run("UNIT " + unit + " from a PLACE to itself").call("ofDay(3, -77)").asked("between(3, 3, " + unit + ")", 0);
        }
    }

    private static void fromTheFirstToTheLast() {
        int[] units = {7304483, 1043497, 239987, 19998, 1999, 199, 19};
        for (int unit = DAYS; unit <= THOUSANDS; unit++) {
            between("-9999, 1, 1", "9999, 12, 31", unit, units[unit]);
        }
    }

    private static void aDateTenYearsOn() {
        new Run("as many UNITS as were added")
            .call("of(0, 2024, 2, 29)").call("of(1, 2024, 2, 29)").call("plusYears(1, 4000)")
            .asked("between(0, 1, 2)", 48000).asked("between(0, 1, 3)", 4000).asked("between(0, 1, 4)", 400)
            .asked("between(0, 1, 5)", 40).asked("between(0, 1, 6)", 4)
            .call("minusDays(1, 1)").asked("between(0, 1, 2)", 47999).asked("between(0, 1, 3)", 3999)
            .asked("between(0, 1, 4)", 399).asked("between(0, 1, 5)", 39).asked("between(0, 1, 6)", 3);
    }

    private static void unitsFrom0To6() {
        new Run("the UNITS 0 and 6")
            .call("of(0, 2024, 2, 29)").asked("between(1, 0, 0)", 19782).asked("between(1, 0, 6)", 0)
            .refused("between(1, 0, -1)", Calls.ARGUMENT).refused("between(1, 0, 7)", Calls.ARGUMENT)
            .asked("wouldBe(0, 0, 1)", 19783).asked("wouldBe(0, 6, 1)", 385024)
            .refused("wouldBe(0, -1, 1)", Calls.ARGUMENT).refused("wouldBe(0, 7, 1)", Calls.ARGUMENT);
    }
}
