/** The boundary cases of section 3 of the document, and of the promises 22 to 27: a test for each sentence. */
public final class SpansEdgesTest {
    public static void main(String[] args) {
        spansAtFirst();
        numbersOfASpan();
        sumsAt100000();
        sumsAtMinus100000();
        sumWithItself();
        monthsDoNotBecomeAYear();
        monthsFirstAndAtOnce();
        monthsTakenAwayFirst();
        onTheWayBehindTheLastYear();
        onTheWayAheadOfTheFirstYear();
        leapYearsOnTheWay();
        longestWays();
        greatestNumbersOfASpan();
        datesInTheEnd();
        untilTheSameDate();
        untilADateAhead();
        untilAboutTheSameDay();
        untilAboutTheEndOfAMonth();
        untilFromTheFirstToTheLast();
        untilLeadsThere();
        Run.end();
    }

    private static void spansAtFirst() {
        Run run = new Run("the SPANS 0 and 1, at first");
        for (int what = 0; what <= 2; what++) {
            run.asked("ofSpan(0, " + what + ")", 0).asked("ofSpan(1, " + what + ")", 0);
            run.refused("ofSpan(-1, " + what + ")", Calls.INDEX).refused("ofSpan(2, " + what + ")", Calls.INDEX);
        }
        run.due("plusSpan(0, 0)", 0).due("plusSpan(0, 1)", 0).due("minusSpan(0, 0)", 0).due("addSpan(0, 1)", 0)
            .due("span(0, 1, 2, 3)", 14).due("span(1, 4, 5, 6)", 53).due("ofSpan(0, 0)", 1).due("ofSpan(1, 0)", 4)
            .refused("span(2, 1, 2, 3)", Calls.INDEX).refused("span(-1, 1, 2, 3)", Calls.INDEX);
    }

    private static void numbersOfASpan() {
        new Run("the numbers of a SPAN at -100000 and 100000")
            .due("span(0, 100000, 1, 2)", 1200001).due("ofSpan(0, 0)", 100000).refused("span(0, 100001, 1, 2)", Calls.ARGUMENT)
            .due("span(0, -100000, 1, 2)", -1199999).due("ofSpan(0, 0)", -100000).refused("span(0, -100001, 1, 2)", Calls.ARGUMENT)
            .due("span(0, 1, 100000, 2)", 100012).due("ofSpan(0, 1)", 100000).refused("span(0, 1, 100001, 2)", Calls.ARGUMENT)
            .due("span(0, 1, -100000, 2)", -99988).due("ofSpan(0, 1)", -100000).refused("span(0, 1, -100001, 2)", Calls.ARGUMENT)
            .due("span(0, 1, 2, 100000)", 14).due("ofSpan(0, 2)", 100000).refused("span(0, 1, 2, 100001)", Calls.ARGUMENT)
            .due("span(0, 1, 2, -100000)", 14).due("ofSpan(0, 2)", -100000).refused("span(0, 1, 2, -100001)", Calls.ARGUMENT)
            .due("span(1, 100000, 100000, 100000)", 1300000).due("span(1, -100000, -100000, -100000)", -1300000);
    }

    private static void sumsAt100000() {
        sum("99999, 0, 0", "1, 0, 0", 0, 100000);
        sum("0, 99999, 0", "0, 1, 0", 1, 100000);
        sum("0, 0, 99999", "0, 0, 1", 2, 100000);
        sum("100000, 100000, 100000", "0, 0, 0", 1, 100000);
        noSum("100000, 0, 0", "1, 0, 0");
        noSum("0, 100000, 0", "0, 1, 0");
        noSum("0, 0, 100000", "0, 0, 1");
        noSum("50001, 5, 5", "50000, 5, 5");
        noSum("5, 50001, 5", "5, 50000, 5");
        noSum("5, 5, 50001", "5, 5, 50000");
        noSum("100000, 100000, 100000", "100000, 100000, 100000");
    }

    private static void sumsAtMinus100000() {
        sum("-99999, 0, 0", "-1, 0, 0", 0, -100000);
        sum("0, -99999, 0", "0, -1, 0", 1, -100000);
        sum("0, 0, -99999", "0, 0, -1", 2, -100000);
        sum("-100000, -100000, -100000", "0, 0, 0", 1, -100000);
        sum("-100000, -100000, -100000", "100000, 100000, 100000", 2, 0);
        noSum("-100000, 0, 0", "-1, 0, 0");
        noSum("0, -100000, 0", "0, -1, 0");
        noSum("0, 0, -100000", "0, 0, -1");
        noSum("-50001, -5, -5", "-50000, -5, -5");
        noSum("-5, -50001, -5", "-5, -50000, -5");
        noSum("-5, -5, -50001", "-5, -5, -50000");
        noSum("-100000, -100000, -100000", "-100000, -100000, -100000");
    }

    private static void sum(String first, String second, int what, int want) {
        new Run(first + " and " + second).call("span(0, " + first + ")").call("span(1, " + second + ")")
            .call("addSpan(0, 1)").due("ofSpan(0, " + what + ")", want).due("house(0)", 3)
            .call("span(0, " + first + ")").call("addSpan(1, 0)").due("ofSpan(1, " + what + ")", want);
    }

    private static void noSum(String first, String second) {
        new Run(first + " and " + second).call("span(0, " + first + ")").call("span(1, " + second + ")")
            .refused("addSpan(0, 1)", Calls.STATE).refused("addSpan(1, 0)", Calls.STATE);
    }

    private static void sumWithItself() {
        new Run("a SPAN added to itself")
            .call("span(0, 50000, -50000, 50000)").due("addSpan(0, 0)", 100000)
            .due("ofSpan(0, 0)", 100000).due("ofSpan(0, 1)", -100000)
            .call("span(0, 50001, 0, 0)").refused("addSpan(0, 0)", Calls.STATE)
            .call("span(0, 0, -50001, 0)").refused("addSpan(0, 0)", Calls.STATE)
            .call("span(0, 0, 0, 50001)").refused("addSpan(0, 0)", Calls.STATE)
            .call("span(1, -50000, 50000, -50000)").due("addSpan(1, 1)", -100000).refused("addSpan(1, 1)", Calls.STATE);
    }

    private static void monthsDoNotBecomeAYear() {
        new Run("12 MONTHS do not become a YEAR")
            .call("span(0, 1, 6, 20)").call("span(1, 2, 6, 15)").due("addSpan(0, 1)", 35)
            .due("ofSpan(0, 0)", 3).due("ofSpan(0, 1)", 12).due("ofSpan(0, 2)", 35)
            .due("addSpan(0, 1)", 50).due("ofSpan(0, 0)", 5).due("ofSpan(0, 1)", 18)
            .call("span(0, 0, 12, 31)").due("ofSpan(0, 0)", 0).due("ofSpan(0, 1)", 12).due("ofSpan(0, 2)", 31);
    }

    private static void monthsFirstAndAtOnce() {
        new Run("plusSpan: first the MONTHS, at once, then the DAYS")
            .call("of(0, 2024, 2, 29)").call("span(0, 1, 36, 0)").due("plusSpan(0, 0)", 21243)
            .call("of(0, 2024, 2, 29)").call("span(0, 1, 36, 1)").due("plusSpan(0, 0)", 21244)
            .call("of(0, 2023, 1, 31)").call("span(0, 0, 1, 1)").due("plusSpan(0, 0)", 19417).due("text(0)", "2023-03-01")
            .call("of(0, 2023, 1, 28)").call("span(0, 0, 1, 3)").due("plusSpan(0, 0)", 19419).due("text(0)", "2023-03-03")
            .call("of(0, 2023, 3, 31)").call("span(0, 0, -1, -1)").due("plusSpan(0, 0)", 19415).due("text(0)", "2023-02-27")
            .call("of(0, 2023, 3, 31)").call("span(0, 2, -24, 0)").due("plusSpan(0, 0)", 19447)
            .call("of(0, 2024, 2, 29)").call("span(0, 1, -12, 0)").due("plusSpan(0, 0)", 19782);
    }

    private static void monthsTakenAwayFirst() {
        new Run("minusSpan: first the MONTHS are taken away, at once, then the DAYS")
            .call("of(0, 2024, 2, 29)").call("span(0, 1, 36, 0)").due("minusSpan(0, 0)", 18321)
            .call("of(0, 2023, 3, 31)").call("span(0, 0, 1, 1)").due("minusSpan(0, 0)", 19415).due("text(0)", "2023-02-27")
            .call("of(0, 2023, 3, 31)").call("span(0, 0, 1, -1)").due("minusSpan(0, 0)", 19417).due("text(0)", "2023-03-01")
            .call("of(0, 2023, 1, 31)").call("span(0, 0, -1, -1)").due("minusSpan(0, 0)", 19417).due("text(0)", "2023-03-01")
            .call("of(0, 2024, 2, 29)").call("span(0, -1, 12, 0)").due("minusSpan(0, 0)", 19782);
    }

    private static void onTheWayBehindTheLastYear() {
        // By the MONTHS the DATE comes to 10000-01-31, by the DAYS back to the last one, or not.
        onTheWay("9999, 12, 31", "0, 1, -31", "0, -1, 31", 2932896);
        onTheWay("9999, 12, 31", "0, 1, -30", "0, -1, 30", Calls.STATE);
        onTheWay("9999, 12, 31", "1, -11, -31", "-1, 11, 31", 2932896);
        onTheWay("9999, 1, 1", "1, 0, -1", "-1, 0, 1", 2932896);
        onTheWay("9999, 1, 1", "1, 0, 0", "-1, 0, 0", Calls.STATE);
        onTheWay("9999, 12, 31", "0, 0, 1", "0, 0, -1", Calls.STATE);
        onTheWay("9999, 12, 30", "0, 0, 1", "0, 0, -1", 2932896);
    }

    private static void onTheWayAheadOfTheFirstYear() {
        onTheWay("-9999, 1, 1", "0, -1, 31", "0, 1, -31", -4371587);
        onTheWay("-9999, 1, 1", "0, -1, 30", "0, 1, -30", Calls.STATE);
        onTheWay("-9999, 1, 1", "-1, 11, 31", "1, -11, -31", -4371587);
        onTheWay("-9999, 12, 31", "-1, 0, 1", "1, 0, -1", -4371587);
        onTheWay("-9999, 12, 31", "-1, 0, 0", "1, 0, 0", Calls.STATE);
        onTheWay("-9999, 1, 1", "0, 0, -1", "0, 0, 1", Calls.STATE);
        onTheWay("-9999, 1, 2", "0, 0, -1", "0, 0, 1", -4371587);
    }

    private static void leapYearsOnTheWay() {
        // 10000 and -10000 are LEAP YEARS, 10100 and -10100 are none.
        onTheWay("9999, 12, 31", "0, 2, -60", "0, -2, 60", 2932896);
        onTheWay("9999, 12, 31", "0, 2, -59", "0, -2, 59", Calls.STATE);
        onTheWay("9996, 2, 29", "4, 0, -60", "-4, 0, 60", 2932896);
        onTheWay("9996, 2, 29", "104, 0, -36584", "-104, 0, 36584", 2932896);
        onTheWay("9996, 2, 29", "104, 0, -36583", "-104, 0, 36583", Calls.STATE);
        onTheWay("-9996, 2, 29", "-4, 0, 307", "4, 0, -307", -4371587);
        onTheWay("-9996, 2, 29", "-4, 0, 306", "4, 0, -306", Calls.STATE);
        onTheWay("-9996, 2, 29", "-104, 0, 36832", "104, 0, -36832", -4371587);
        onTheWay("-9996, 2, 29", "-104, 0, 36831", "104, 0, -36831", Calls.STATE);
    }

    private static void longestWays() {
        // 100000 DAYS behind the last DATE is 10273-10-15, as many ahead of the first one -10273-03-19.
        onTheWay("9999, 12, 15", "273, 10, -100000", "-273, -10, 100000", 2932896);
        onTheWay("9999, 12, 16", "273, 10, -100000", "-273, -10, 100000", Calls.STATE);
        onTheWay("-9999, 3, 19", "-274, 0, 100000", "274, 0, -100000", -4371587);
        onTheWay("-9999, 3, 18", "-274, 0, 100000", "274, 0, -100000", Calls.STATE);
    }

    private static void greatestNumbersOfASpan() {
        onTheWay("2024, 2, 29", "8334, -100000, 0", "-8334, 100000, 0", 20025);
        onTheWay("2024, 2, 29", "-8334, 100000, 0", "8334, -100000, 0", 19537);
        onTheWay("1970, 1, 1", "0, 0, 100000", "0, 0, -100000", 100000);
        onTheWay("1970, 1, 1", "0, 0, -100000", "0, 0, 100000", -100000);
        onTheWay("-9999, 1, 1", "0, 100000, 0", "0, -100000, 0", -1327902);
        onTheWay("9999, 1, 1", "0, -100000, 0", "0, 100000, 0", -111155);
        onTheWay("-9999, 1, 1", "100000, 100000, 100000", "-100000, -100000, -100000", Calls.STATE);
        onTheWay("9999, 12, 31", "-100000, -100000, -100000", "100000, 100000, 100000", Calls.STATE);
        onTheWay("-9999, 1, 1", "100000, -100000, -100000", "-100000, 100000, 100000", Calls.STATE);
        onTheWay("9999, 12, 31", "-100000, 100000, 100000", "100000, -100000, -100000", Calls.STATE);
    }

    private static void datesInTheEnd() {
        onTheWay("-9999, 1, 1", "19998, 11, 30", "-19998, -11, -30", 2932896);
        onTheWay("-9999, 1, 1", "19998, 11, 31", "-19998, -11, -31", Calls.STATE);
        onTheWay("9999, 12, 31", "-19998, -11, -30", "19998, 11, 30", -4371587);
        onTheWay("9999, 12, 31", "-19998, -11, -31", "19998, 11, 31", Calls.STATE);
    }

    /** The SPAN is added to the DATE, and the one turned round is taken away from it: the same is due. */
    private static void onTheWay(String date, String span, String turned, Object want) {
        new Run(span + " added to " + date)
            .call("of(0, " + date + ")").call("span(0, " + span + ")").due("plusSpan(0, 0)", want)
            .call("of(1, " + date + ")").call("span(1, " + turned + ")").due("minusSpan(1, 1)", want);
    }

    private static void untilTheSameDate() {
        new Run("UNTIL the same DATE: it is not ahead")
            .call("span(0, 7, 7, 7)").call("of(0, 2024, 2, 29)").call("of(1, 2024, 2, 29)")
            .asked("apart(0, 1, 0)", 0).asked("apart(0, 1, 1)", 0).asked("apart(0, 1, 2)", 0)
            .due("until(0, 0, 1)", 0).due("ofSpan(0, 0)", 0).due("ofSpan(0, 1)", 0).due("ofSpan(0, 2)", 0)
            .call("span(0, 7, 7, 7)").due("until(0, 1, 1)", 0).due("ofSpan(0, 0)", 0).due("ofSpan(0, 1)", 0);
    }

    private static void untilADateAhead() {
        new Run("UNTIL a DATE that is ahead by a day")
            .call("span(0, 7, 7, 7)").call("of(0, 2024, 3, 1)").call("of(1, 2024, 2, 29)")
            .refused("until(0, 0, 1)", Calls.STATE).refused("apart(0, 1, 0)", Calls.STATE)
            .refused("apart(0, 1, 1)", Calls.STATE).refused("apart(0, 1, 2)", Calls.STATE)
            .due("until(0, 1, 0)", 1).due("ofSpan(0, 0)", 0).due("ofSpan(0, 1)", 0).asked("apart(1, 0, 2)", 1);
        new Run("UNTIL the first DATE from the last one")
            .call("ofDay(0, 2932896)").call("ofDay(1, -4371587)")
            .refused("until(0, 0, 1)", Calls.STATE).refused("apart(0, 1, 2)", Calls.STATE);
    }

    private static void untilAboutTheSameDay() {
        until("2023, 5, 15", "2023, 6, 14", 0, 0, 30);
        until("2023, 5, 15", "2023, 6, 15", 0, 1, 0);
        until("2023, 5, 15", "2023, 6, 16", 0, 1, 1);
        until("2023, 5, 15", "2024, 5, 14", 0, 11, 29);
        until("2023, 5, 15", "2024, 5, 15", 1, 0, 0);
        until("2023, 5, 15", "2024, 5, 16", 1, 0, 1);
        until("2023, 12, 31", "2024, 1, 1", 0, 0, 1);
        until("-1, 12, 31", "0, 1, 1", 0, 0, 1);
        until("-1, 5, 15", "1, 5, 14", 1, 11, 29);
        until("-1, 5, 15", "1, 5, 15", 2, 0, 0);
    }

    private static void untilAboutTheEndOfAMonth() {
        until("2023, 1, 31", "2023, 2, 28", 0, 0, 28);
        until("2023, 1, 31", "2023, 3, 1", 0, 1, 1);
        until("2023, 1, 31", "2023, 3, 30", 0, 1, 30);
        until("2023, 1, 31", "2023, 3, 31", 0, 2, 0);
        until("2023, 1, 28", "2023, 2, 28", 0, 1, 0);
        until("2024, 1, 30", "2024, 2, 29", 0, 0, 30);
        until("2024, 1, 29", "2024, 2, 29", 0, 1, 0);
        until("2024, 2, 29", "2025, 2, 28", 0, 11, 30);
        until("2024, 2, 29", "2025, 3, 1", 1, 0, 1);
        until("2024, 2, 29", "2028, 2, 28", 3, 11, 30);
        until("2024, 2, 29", "2028, 2, 29", 4, 0, 0);
    }

    private static void untilFromTheFirstToTheLast() {
        until("-9999, 1, 1", "9999, 12, 31", 19998, 11, 30);
        until("-9999, 12, 31", "9999, 12, 30", 19997, 11, 30);
        until("-9999, 12, 31", "9999, 12, 31", 19998, 0, 0);
    }

    private static void until(String first, String second, int years, int months, int days) {
        new Run("from " + first + " until " + second)
            .call("of(0, " + first + ")").call("of(1, " + second + ")")
            .asked("apart(0, 1, 0)", years).asked("apart(0, 1, 1)", months).asked("apart(0, 1, 2)", days)
            .due("until(0, 0, 1)", days).due("ofSpan(0, 0)", years).due("ofSpan(0, 1)", months).due("ofSpan(0, 2)", days)
            .call("plusSpan(0, 0)").due("isSame(0, 1)", true);
    }

    private static void untilLeadsThere() {
        for (int number = 19357; number <= 19857; number += 7) {
            for (int day = 1; day <= 31; day += 10) {
                new Run("the SPAN from 2022-12-" + day + " until the day " + number)
                    .call("ofDay(1, " + number + ")").call("of(0, 2022, 12, " + day + ")")
                    .call("until(0, 0, 1)").due("plusSpan(0, 0)", number);
            }
        }
    }
}
