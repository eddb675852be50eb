/** The boundary cases of section 2 of the document: a test for each of its sentences. */
public final class MovesEdgesTest {
    private static final String[] UNITS = {"Days", "Weeks", "Months", "Years"};

    public static void main(String[] args) {
        daysCrossTheEndOfAMonth();
        weeksAreSevenDays();
        behind12Comes1();
        aheadOf1Is12();
        dayBecomesTheLastOne();
        dayStays();
        yearsFromTheLeapDay();
        monthsFromTheLeapDay();
        nothingIsAdded();
        takingAwayIsAdding0Less();
        amounts();
        settingTheYear();
        settingTheMonth();
        daysToTheLastDate();
        daysToTheFirstDate();
        monthsAndYearsToTheLastDate();
        monthsAndYearsToTheFirstDate();
        greatestAmountsToTheLastDate();
        greatestAmountsToTheFirstDate();
        tensHundredsThousandsToTheLastDate();
        tensHundredsThousandsToTheFirstDate();
        amountsBeyond32Bits();
        Run.end();
    }

    /** One move of the place 0 from a DATE, by plus and by minus, and the answer of wouldBe to it. */
    private static void moved(String date, int unit, int many, Object want) {
        Run run = new Run(many + " " + UNITS[unit] + " from " + date).call("of(0, " + date + ")");
        if (String.valueOf(want).startsWith("throws.")) {
            run.refused("wouldBe(0, " + unit + ", " + many + ")", String.valueOf(want));
        } else {
            run.asked("wouldBe(0, " + unit + ", " + many + ")", want);
        }
        run.due("plus" + UNITS[unit] + "(0, " + many + ")", want).call("of(0, " + date + ")")
            .due("minus" + UNITS[unit] + "(0, " + -many + ")", want);
    }

    private static void daysCrossTheEndOfAMonth() {
        moved("2023, 1, 31", 0, 1, 19389);
        moved("2023, 2, 1", 0, -1, 19388);
        moved("2023, 4, 30", 0, 1, 19478);
        moved("2023, 2, 28", 0, 1, 19417);
        moved("2023, 3, 1", 0, -1, 19416);
        moved("2024, 2, 28", 0, 1, 19782);
        moved("2024, 2, 29", 0, 1, 19783);
        moved("2024, 3, 1", 0, -1, 19782);
        moved("2023, 12, 31", 0, 1, 19723);
        moved("2024, 1, 1", 0, -1, 19722);
        moved("-1, 12, 31", 0, 1, -719528);
        moved("1, 1, 1", 0, -1, -719163);
        new Run("DAYS across the end of a MONTH")
            .call("of(0, 2023, 2, 28)").call("plusDays(0, 1)").due("text(0)", "2023-03-01")
            .call("minusDays(0, 1)").due("text(0)", "2023-02-28")
            .call("of(0, 2024, 2, 28)").call("plusDays(0, 1)").due("text(0)", "2024-02-29")
            .call("plusDays(0, 1)").due("text(0)", "2024-03-01").call("plusDays(0, -1)").due("text(0)", "2024-02-29");
    }

    private static void weeksAreSevenDays() {
        moved("1970, 1, 1", 1, 1, 7);
        moved("1970, 1, 1", 1, -1, -7);
        moved("2024, 2, 29", 1, 1, 19789);
        moved("2024, 2, 29", 1, -1, 19775);
        moved("2023, 12, 25", 1, 1, 19723);
        moved("1970, 1, 1", 1, 52, 364);
    }

    private static void behind12Comes1() {
        moved("2023, 12, 15", 2, 1, 19737);
        moved("2023, 11, 15", 2, 1, 19706);
        moved("2023, 1, 15", 2, 11, 19706);
        moved("2023, 1, 15", 2, 12, 19737);
        moved("2023, 12, 15", 2, 13, 20103);
        moved("-1, 12, 15", 2, 1, -719514);
        moved("0, 12, 15", 2, 1, -719148);
        new Run("behind the MONTH 12 comes 1 of the next YEAR")
            .call("of(0, 2023, 12, 15)").call("plusMonths(0, 1)").due("text(0)", "2024-01-15")
            .call("of(0, 2023, 12, 15)").call("plusMonths(0, 24)").due("text(0)", "2025-12-15")
            .call("of(0, -1, 12, 15)").call("plusMonths(0, 1)").due("text(0)", "0000-01-15");
    }

    private static void aheadOf1Is12() {
        moved("2024, 1, 15", 2, -1, 19706);
        moved("2024, 2, 15", 2, -1, 19737);
        moved("2024, 12, 15", 2, -11, 19737);
        moved("2024, 12, 15", 2, -12, 19706);
        moved("0, 1, 15", 2, -1, -719545);
        moved("1, 1, 15", 2, -1, -719179);
        new Run("the MONTH ahead of 1 is 12 of the YEAR ahead")
            .call("of(0, 2024, 1, 15)").call("plusMonths(0, -1)").due("text(0)", "2023-12-15")
            .call("of(0, 0, 1, 15)").call("plusMonths(0, -1)").due("year(0)", -1).due("month(0)", 12).due("day(0)", 15)
            .call("of(0, 1, 1, 15)").call("minusMonths(0, 13)").due("year(0)", -1).due("month(0)", 12).due("day(0)", 15);
    }

    private static void dayBecomesTheLastOne() {
        int[] numbers = {19416, 19447, 19477, 19508, 19538, 19569, 19600, 19630, 19661, 19691, 19722, 19753};
        int[] leapNumbers = {19782, 19813, 19843, 19874, 19904, 19935, 19966, 19996, 20027, 20057, 20088, 20119};
        int[] backNumbers = {19691, 19661, 19630, 19600, 19569, 19538, 19508, 19477, 19447, 19416, 19388, 19357};
        for (int many = 1; many <= 12; many++) {
            moved("2023, 1, 31", 2, many, numbers[many - 1]);
            moved("2024, 1, 31", 2, many, leapNumbers[many - 1]);
            moved("2023, 12, 31", 2, -many, backNumbers[many - 1]);
        }
        moved("2023, 1, 29", 2, 1, 19416);
        moved("2023, 1, 30", 2, 1, 19416);
        moved("2023, 1, 31", 2, -11, 19051);
        moved("1899, 12, 31", 2, 2, -25509);
        moved("-1, 12, 31", 2, 2, -719469);
    }

    private static void dayStays() {
        moved("2023, 1, 28", 2, 1, 19416);
        moved("2024, 1, 29", 2, 1, 19782);
        moved("2023, 3, 30", 2, 1, 19477);
        moved("2023, 4, 30", 2, 1, 19507);
        moved("2023, 2, 28", 2, 1, 19444);
        moved("2023, 7, 31", 2, 1, 19600);
        new Run("the DAY stays lost once it was the last one")
            .call("of(0, 2023, 1, 31)").due("plusMonths(0, 1)", 19416).due("plusMonths(0, 1)", 19444).due("minusMonths(0, 2)", 19385);
    }

    private static void yearsFromTheLeapDay() {
        moved("2024, 2, 29", 3, 1, 20147);
        moved("2024, 2, 29", 3, -1, 19416);
        moved("2024, 2, 29", 3, 3, 20877);
        moved("2024, 2, 29", 3, 4, 21243);
        moved("2024, 2, 29", 3, 76, 47540);
        moved("2024, 2, 29", 3, 376, 157113);
        moved("2024, 2, 29", 3, -124, -25509);
        moved("2024, 2, 29", 3, -24, 11016);
        moved("0, 2, 29", 3, -1, -719835);
        moved("0, 2, 29", 3, -4, -720930);
        moved("0, 2, 29", 3, -100, -755994);
        moved("2023, 2, 28", 3, 1, 19781);
        moved("2023, 3, 1", 3, 1, 19783);
    }

    private static void monthsFromTheLeapDay() {
        moved("2024, 2, 29", 2, 12, 20147);
        moved("2024, 2, 29", 2, 48, 21243);
        moved("2024, 2, 29", 2, -12, 19416);
        moved("2024, 2, 29", 2, 1, 19811);
    }

    private static void nothingIsAdded() {
        for (int unit = 0; unit <= 3; unit++) {
            moved("2024, 2, 29", unit, 0, 19782);
            moved("9999, 12, 31", unit, 0, 2932896);
            moved("-9999, 1, 1", unit, 0, -4371587);
        }
    }

    private static void takingAwayIsAdding0Less() {
        new Run("to take away is to add 0 less the number")
            .call("of(0, 2024, 2, 29)").due("minusDays(0, 1)", 19781).due("minusDays(0, -1)", 19782)
            .due("minusWeeks(0, 1)", 19775).due("minusWeeks(0, -1)", 19782)
            .due("minusMonths(0, 1)", 19751).due("minusMonths(0, -1)", 19782)
            .due("minusYears(0, 1)", 19416).due("minusYears(0, -1)", 19781);
    }

    private static void amounts() {
        moved("1970, 1, 1", 0, 200000, 200000);
        moved("1970, 1, 1", 0, -200000, -200000);
        moved("1970, 1, 1", 1, 200000, 1400000);
        moved("1970, 1, 1", 1, -200000, -1400000);
        moved("-9999, 1, 1", 2, 200000, 1715787);
        moved("9999, 12, 31", 2, -200000, -3154480);
        moved("-9999, 1, 1", 3, 200000, Calls.STATE);
        moved("9999, 12, 31", 3, -200000, Calls.STATE);
        for (int unit = 0; unit <= 3; unit++) {
            for (int many : new int[] {200001, -200001, Integer.MAX_VALUE, -Integer.MAX_VALUE}) {
                moved("1970, 1, 1", unit, many, Calls.ARGUMENT);
            }
            new Run("the least int is no AMOUNT")
                .refused("plus" + UNITS[unit] + "(0, -2147483648)", Calls.ARGUMENT)
                .refused("minus" + UNITS[unit] + "(0, -2147483648)", Calls.ARGUMENT)
                .refused("wouldBe(0, " + unit + ", -2147483648)", Calls.ARGUMENT);
        }
    }

    private static void settingTheYear() {
        new Run("the YEAR is set: the DAY stays, or becomes the last one")
            .call("of(0, 2024, 2, 29)").asked("sameDay(0, 2023)", 19416).asked("sameDay(0, 2000)", 11016)
            .asked("sameDay(0, 1900)", -25509).asked("sameDay(0, 0)", -719469).asked("sameDay(0, -100)", -755994)
            .due("withYear(0, 2000)", 11016).due("withYear(0, 0)", -719469).due("withYear(0, -4)", -720930)
            .due("withYear(0, -100)", -755994).due("withYear(0, 2024)", 19781)
            .call("of(0, 2024, 2, 29)").due("withYear(0, 1900)", -25509).due("text(0)", "1900-02-28")
            .call("of(0, 2023, 2, 28)").due("withYear(0, 2024)", 19781).asked("sameDay(0, 2000)", 11015)
            .call("of(0, 2024, 12, 31)").due("withYear(0, 2023)", 19722).due("withYear(0, 9999)", 2932896)
            .due("withYear(0, -9999)", -4371223);
    }

    private static void settingTheMonth() {
        int[] numbers = {19388, 19416, 19447, 19477, 19508, 19538, 19569, 19600, 19630, 19661, 19691, 19722};
        for (int month = 1; month <= 12; month++) {
            new Run("the MONTH is set to " + month + ": the DAY becomes the last one")
                .call("of(0, 2023, 1, 31)").due("withMonth(0, " + month + ")", numbers[month - 1]);
        }
        new Run("the MONTH is set: the DAY stays")
            .call("of(0, 2024, 1, 29)").due("withMonth(0, 2)", 19782).due("withMonth(0, 3)", 19811).due("withMonth(0, 2)", 19782)
            .call("of(0, 2024, 1, 30)").due("withMonth(0, 2)", 19782).due("withMonth(0, 4)", 19842)
            .call("of(0, 2023, 1, 29)").due("withMonth(0, 2)", 19416);
    }

    private static void daysToTheLastDate() {
        moved("9999, 12, 30", 0, 1, 2932896);
        moved("9999, 12, 31", 0, 1, Calls.STATE);
        moved("9999, 12, 1", 0, 30, 2932896);
        moved("9999, 12, 1", 0, 31, Calls.STATE);
        moved("9999, 12, 24", 1, 1, 2932896);
        moved("9999, 12, 25", 1, 1, Calls.STATE);
        moved("9999, 12, 31", 1, 1, Calls.STATE);
    }

    private static void daysToTheFirstDate() {
        moved("-9999, 1, 2", 0, -1, -4371587);
        moved("-9999, 1, 1", 0, -1, Calls.STATE);
        moved("-9999, 1, 31", 0, -30, -4371587);
        moved("-9999, 1, 31", 0, -31, Calls.STATE);
        moved("-9999, 1, 8", 1, -1, -4371587);
        moved("-9999, 1, 7", 1, -1, Calls.STATE);
        moved("-9999, 1, 1", 1, -1, Calls.STATE);
    }

    private static void monthsAndYearsToTheLastDate() {
        moved("9999, 11, 30", 2, 1, 2932895);
        moved("9999, 12, 1", 2, 1, Calls.STATE);
        moved("9999, 10, 31", 2, 2, 2932896);
        moved("9999, 10, 1", 2, 3, Calls.STATE);
        moved("9998, 12, 31", 3, 1, 2932896);
        moved("9999, 1, 1", 3, 1, Calls.STATE);
        moved("-9999, 12, 31", 3, 19998, 2932896);
        moved("-9999, 1, 1", 3, 19999, Calls.STATE);
    }

    private static void monthsAndYearsToTheFirstDate() {
        moved("-9999, 2, 28", 2, -1, -4371560);
        moved("-9999, 1, 31", 2, -1, Calls.STATE);
        moved("-9999, 3, 1", 2, -2, -4371587);
        moved("-9999, 3, 31", 2, -3, Calls.STATE);
        moved("-9998, 1, 1", 3, -1, -4371587);
        moved("-9999, 12, 31", 3, -1, Calls.STATE);
        moved("9999, 1, 1", 3, -19998, -4371587);
        moved("9999, 12, 31", 3, -19999, Calls.STATE);
    }

    private static void greatestAmountsToTheLastDate() {
        new Run("200000 DAYS, WEEKS and MONTHS to the last DATE")
            .call("ofDay(0, 2732896)").due("plusDays(0, 200000)", 2932896)
            .call("ofDay(0, 2732897)").refused("plusDays(0, 200000)", Calls.STATE).refused("minusDays(0, -200000)", Calls.STATE)
            .due("plusDays(0, 199999)", 2932896)
            .call("ofDay(0, 1532896)").due("plusWeeks(0, 200000)", 2932896)
            .call("ofDay(0, 1532897)").refused("plusWeeks(0, 200000)", Calls.STATE).refused("minusWeeks(0, -200000)", Calls.STATE)
            .due("plusWeeks(0, 199999)", 2932890)
            .call("of(0, -6667, 4, 30)").due("plusMonths(0, 200000)", 2932895)
            .call("of(0, -6667, 5, 1)").refused("plusMonths(0, 200000)", Calls.STATE).refused("minusMonths(0, -200000)", Calls.STATE)
            .due("plusMonths(0, 199999)", 2932866);
    }

    private static void greatestAmountsToTheFirstDate() {
        new Run("200000 DAYS, WEEKS and MONTHS back to the first DATE")
            .call("ofDay(0, -4171587)").due("plusDays(0, -200000)", -4371587)
            .call("ofDay(0, -4171588)").refused("plusDays(0, -200000)", Calls.STATE).refused("minusDays(0, 200000)", Calls.STATE)
            .due("minusDays(0, 199999)", -4371587)
            .call("ofDay(0, -2971587)").due("plusWeeks(0, -200000)", -4371587)
            .call("ofDay(0, -2971588)").refused("plusWeeks(0, -200000)", Calls.STATE).refused("minusWeeks(0, 200000)", Calls.STATE)
            .due("minusWeeks(0, 199999)", -4371581)
            .call("of(0, 6667, 9, 1)").due("plusMonths(0, -200000)", -4371587)
            .call("of(0, 6667, 8, 31)").refused("plusMonths(0, -200000)", Calls.STATE).refused("minusMonths(0, 200000)", Calls.STATE)
            .due("minusMonths(0, 199999)", -4371557);
    }

    private static void tensHundredsThousandsToTheLastDate() {
        new Run("wouldBe: tens, hundreds and thousands of YEARS on")
            .call("of(0, 9989, 12, 31)").asked("wouldBe(0, 4, 1)", 2932896).refused("wouldBe(0, 4, 2)", Calls.STATE)
            .call("of(0, 9990, 1, 1)").refused("wouldBe(0, 4, 1)", Calls.STATE)
            .call("of(0, 9899, 12, 31)").asked("wouldBe(0, 5, 1)", 2932896).refused("wouldBe(0, 5, 2)", Calls.STATE)
            .call("of(0, 9900, 1, 1)").refused("wouldBe(0, 5, 1)", Calls.STATE)
            .call("of(0, 8999, 12, 31)").asked("wouldBe(0, 6, 1)", 2932896).refused("wouldBe(0, 6, 2)", Calls.STATE)
            .call("of(0, 9000, 1, 1)").refused("wouldBe(0, 6, 1)", Calls.STATE)
            .call("of(0, -9999, 12, 31)").asked("wouldBe(0, 6, 19)", 2568384).refused("wouldBe(0, 6, 20)", Calls.STATE)
            .asked("wouldBe(0, 5, 199)", 2897102).refused("wouldBe(0, 5, 200)", Calls.STATE)
            .asked("wouldBe(0, 4, 1999)", 2929974).refused("wouldBe(0, 4, 2000)", Calls.STATE);
    }

    private static void tensHundredsThousandsToTheFirstDate() {
        new Run("wouldBe: tens, hundreds and thousands of YEARS back")
            .call("of(0, -9989, 1, 1)").asked("wouldBe(0, 4, -1)", -4371587).refused("wouldBe(0, 4, -2)", Calls.STATE)
            .call("of(0, -9990, 12, 31)").refused("wouldBe(0, 4, -1)", Calls.STATE)
            .call("of(0, -9899, 1, 1)").asked("wouldBe(0, 5, -1)", -4371587).refused("wouldBe(0, 5, -2)", Calls.STATE)
            .call("of(0, -9900, 12, 31)").refused("wouldBe(0, 5, -1)", Calls.STATE)
            .call("of(0, -8999, 1, 1)").asked("wouldBe(0, 6, -1)", -4371587).refused("wouldBe(0, 6, -2)", Calls.STATE)
            .call("of(0, -9000, 12, 31)").refused("wouldBe(0, 6, -1)", Calls.STATE)
            .call("of(0, 2024, 2, 29)").asked("wouldBe(0, 4, -1)", 16129).asked("wouldBe(0, 5, -1)", -16743)
            .asked("wouldBe(0, 6, -1)", -345461);
    }

    private static void amountsBeyond32Bits() {
        Run run = new Run("wouldBe: so many YEARS that an int does not hold their MONTHS, or no DATE has them");
        for (int unit = 4; unit <= 6; unit++) {
            for (int many : new int[] {200000, 199999, 178957, 178956, -178957, -199999, -200000}) {
                run.refused("wouldBe(0, " + unit + ", " + many + ")", Calls.STATE);
            }
            run.refused("wouldBe(0, " + unit + ", 200001)", Calls.ARGUMENT).refused("wouldBe(0, " + unit + ", -200001)", Calls.ARGUMENT);
        }
    }
}
