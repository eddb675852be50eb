/** Promises 8 to 13: another year, month or day. */
public final class SettingTest {
    public static void main(String[] args) {
        withYear();
        withMonth();
        withDay();
        withDayOfYear();
        toFirst();
        toLast();
        Run.end();
    }

    private static void withYear() {
        new Run("8 withYear")
            .call("of(0, 2024, 2, 29)")
            .due("withYear(0, 2028)", 21243).due("text(0)", "2028-02-29")
            .due("withYear(0, 2000)", 11016).due("text(0)", "2000-02-29")
            .due("withYear(0, 1999)", 10650).due("text(0)", "1999-02-28")
            .due("withYear(0, 2000)", 11015).due("text(0)", "2000-02-28")
            .call("of(0, 0, 2, 29)").due("withYear(0, -100)", -755994).due("day(0)", 28).due("year(0)", -100)
            .call("of(0, 2023, 12, 31)").due("withYear(0, 9999)", 2932896).due("text(0)", "9999-12-31")
            .call("of(0, 2023, 1, 1)").due("withYear(0, -9999)", -4371587).due("house(0)", 11)
            .refused("withYear(6, 0)", Calls.INDEX).refused("withYear(-1, 10000)", Calls.INDEX)
            .refused("withYear(0, 10000)", Calls.ARGUMENT).refused("withYear(0, -10000)", Calls.ARGUMENT);
    }

    private static void withMonth() {
        new Run("9 withMonth")
            .call("of(0, 2023, 1, 31)")
            .due("withMonth(0, 12)", 19722).due("text(0)", "2023-12-31")
            .due("withMonth(0, 4)", 19477).due("text(0)", "2023-04-30")
            .due("withMonth(0, 2)", 19416).due("text(0)", "2023-02-28")
            .due("withMonth(0, 3)", 19444).due("text(0)", "2023-03-28")
            .call("of(0, 2024, 1, 31)").due("withMonth(0, 2)", 19782).due("text(0)", "2024-02-29")
            .due("withMonth(0, 1)", 19751).due("text(0)", "2024-01-29").due("house(0)", 8)
            .refused("withMonth(6, 1)", Calls.INDEX).refused("withMonth(-1, 13)", Calls.INDEX)
            .refused("withMonth(0, 0)", Calls.ARGUMENT).refused("withMonth(0, 13)", Calls.ARGUMENT)
            .refused("withMonth(0, -1)", Calls.ARGUMENT);
    }

    private static void withDay() {
        new Run("10 withDay")
            .call("of(0, 2024, 2, 1)")
            .due("withDay(0, 29)", 19782).due("text(0)", "2024-02-29")
            .due("withDay(0, 1)", 19754).due("text(0)", "2024-02-01")
            .refused("withDay(0, 30)", Calls.STATE).refused("withDay(0, 31)", Calls.STATE)
            .call("of(0, 2023, 2, 1)").refused("withDay(0, 29)", Calls.STATE)
            .due("withDay(0, 28)", 19416)
            .call("of(0, 2023, 4, 1)").refused("withDay(0, 31)", Calls.STATE)
            .due("withDay(0, 30)", 19477)
            .call("of(0, 2023, 12, 1)").due("withDay(0, 31)", 19722).due("house(0)", 9)
            .refused("withDay(6, 1)", Calls.INDEX).refused("withDay(-1, 32)", Calls.INDEX)
            .refused("withDay(0, 0)", Calls.ARGUMENT).refused("withDay(0, 32)", Calls.ARGUMENT)
            .refused("withDay(0, -1)", Calls.ARGUMENT);
    }

    private static void withDayOfYear() {
        new Run("11 withDayOfYear")
            .call("of(0, 2024, 5, 17)")
            .due("withDayOfYear(0, 366)", 20088).due("text(0)", "2024-12-31")
            .due("withDayOfYear(0, 60)", 19782).due("text(0)", "2024-02-29")
            .due("withDayOfYear(0, 1)", 19723).due("text(0)", "2024-01-01")
            .call("of(0, 2023, 5, 17)").refused("withDayOfYear(0, 366)", Calls.STATE)
            .due("withDayOfYear(0, 365)", 19722).due("text(0)", "2023-12-31")
            .due("withDayOfYear(0, 60)", 19417).due("text(0)", "2023-03-01").due("house(0)", 7)
            .refused("withDayOfYear(6, 1)", Calls.INDEX).refused("withDayOfYear(-1, 367)", Calls.INDEX)
            .refused("withDayOfYear(0, 0)", Calls.ARGUMENT).refused("withDayOfYear(0, 367)", Calls.ARGUMENT)
            .refused("withDayOfYear(0, -366)", Calls.ARGUMENT);
    }

    private static void toFirst() {
        new Run("12 toFirst")
            .call("of(0, 2024, 2, 29)")
            .due("toFirst(0)", 19754).due("text(0)", "2024-02-01").due("toFirst(0)", 19754).due("house(0)", 3)
            .call("of(1, -9999, 1, 31)").due("toFirst(1)", -4371587)
            .refused("toFirst(6)", Calls.INDEX).refused("toFirst(-1)", Calls.INDEX);
    }

    private static void toLast() {
        Run run = new Run("13 toLast");
        int[] lengths = {31, 28, 31, 30, 31, 30, 31, 31, 30, 31, 30, 31};
        for (int month = 1; month <= 12; month++) {
            run.call("of(0, 2023, " + month + ", 15)").call("toLast(0)").due("day(0)", lengths[month - 1]).due("month(0)", month);
        }
        run.call("of(0, 2024, 2, 1)")
            .due("toLast(0)", 19782).due("text(0)", "2024-02-29").due("toLast(0)", 19782).due("house(0)", 27)
            .call("of(1, 9999, 12, 1)").due("toLast(1)", 2932896)
            .refused("toLast(6)", Calls.INDEX).refused("toLast(-1)", Calls.INDEX);
    }
}
