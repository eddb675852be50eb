/** Promises 42 to 49: what is asked of two dates. */
public final class TwoDatesTest {
    public static void main(String[] args) {
        order();
        between();
        betweenRefused();
        apart();
        daysToYearEnd();
        sameDay();
        Run.end();
    }

    private static void order() {
        String[] rising = {"-9999, 1, 1", "-2, 12, 31", "-1, 1, 1", "0, 6, 15", "2023, 5, 31", "2023, 6, 1", "2024, 1, 1", "9999, 12, 31"};
        Run run = new Run("42 compare, 43 isBefore, 44 isAfter, 45 isSame");
        for (int first = 0; first < rising.length; first++) {
            for (int second = 0; second < rising.length; second++) {
                run = new Run("42 to 45: " + rising[first] + " and " + rising[second])
                    .call("of(0, " + rising[first] + ")").call("of(5, " + rising[second] + ")")
                    .due("compare(0, 5)", Integer.signum(first - second))
                    .due("isBefore(0, 5)", first < second).due("isAfter(0, 5)", first > second).due("isSame(0, 5)", first == second);
            }
        }
        run.due("compare(0, 0)", 0).due("isBefore(0, 0)", false).due("isAfter(0, 0)", false).due("isSame(0, 0)", true).due("house(0)", 2);
        for (String name : new String[] {"compare", "isBefore", "isAfter", "isSame"}) {
            run.refused(name + "(6, 0)", Calls.INDEX).refused(name + "(0, 6)", Calls.INDEX)
                .refused(name + "(-1, 0)", Calls.INDEX).refused(name + "(0, -1)", Calls.INDEX);
        }
    }

    private static void between() {
        due("2000, 1, 1", "2400, 1, 1", 146097, 20871, 4800, 400, 40, 4, 0);
        due("2000, 1, 1", "2399, 12, 31", 146096, 20870, 4799, 399, 39, 3, 0);
        due("-9999, 1, 1", "9999, 12, 31", 7304483, 1043497, 239987, 19998, 1999, 199, 19);
        due("2023, 1, 31", "2023, 2, 28", 28, 4, 0, 0, 0, 0, 0);
        due("2023, 1, 31", "2023, 3, 31", 59, 8, 2, 0, 0, 0, 0);
        due("2020, 2, 29", "2021, 2, 28", 365, 52, 11, 0, 0, 0, 0);
        due("2020, 2, 29", "2021, 3, 1", 366, 52, 12, 1, 0, 0, 0);
        due("1000, 5, 5", "2000, 5, 5", 365243, 52177, 12000, 1000, 100, 10, 1);
        due("1000, 5, 5", "2000, 5, 4", 365242, 52177, 11999, 999, 99, 9, 0);
        due("2024, 5, 5", "2024, 5, 5", 0, 0, 0, 0, 0, 0, 0);
        due("-1, 12, 31", "0, 1, 1", 1, 0, 0, 0, 0, 0, 0);
        due("2024, 5, 5", "2024, 5, 11", 6, 0, 0, 0, 0, 0, 0);
        due("2024, 5, 5", "2024, 5, 12", 7, 1, 0, 0, 0, 0, 0);
    }

    private static void due(String first, String second, int... units) {
        Run run = new Run("46 between " + first + " and " + second).call("of(1, " + first + ")").call("of(4, " + second + ")");
        for (int unit = 0; unit < units.length; unit++) {
            run.due("between(1, 4, " + unit + ")", units[unit]).due("between(4, 1, " + unit + ")", -units[unit]);
        }
        run.due("house(0)", 2);
    }

    private static void betweenRefused() {
        new Run("46 between: refused")
            .refused("between(6, 0, 0)", Calls.INDEX).refused("between(0, 6, 0)", Calls.INDEX)
            .refused("between(-1, 0, 7)", Calls.INDEX).refused("between(0, -1, -1)", Calls.INDEX)
            .refused("between(0, 0, 7)", Calls.ARGUMENT).refused("between(0, 0, -1)", Calls.ARGUMENT)
            .due("between(2, 2, 6)", 0);
    }

    private static void apart() {
        new Run("47 apart")
            .call("of(0, 2024, 1, 30)").call("of(1, 2024, 3, 29)").call("span(0, 7, 7, 7)")
            .due("apart(0, 1, 0)", 0).due("apart(0, 1, 1)", 1).due("apart(0, 1, 2)", 29)
            .call("of(0, 1999, 12, 31)").call("of(1, 2024, 3, 29)")
            .due("apart(0, 1, 0)", 24).due("apart(0, 1, 1)", 2).due("apart(0, 1, 2)", 29)
            .due("apart(1, 1, 0)", 0).due("apart(1, 1, 1)", 0).due("apart(1, 1, 2)", 0)
            .due("ofSpan(0, 0)", 7).due("house(0)", 5)
            .refused("apart(6, 0, 0)", Calls.INDEX).refused("apart(0, 6, 0)", Calls.INDEX)
            .refused("apart(-1, 0, 3)", Calls.INDEX).refused("apart(0, -1, 3)", Calls.INDEX)
            .refused("apart(0, 1, 3)", Calls.ARGUMENT).refused("apart(0, 1, -1)", Calls.ARGUMENT)
            .refused("apart(1, 0, 3)", Calls.ARGUMENT)
            .refused("apart(1, 0, 0)", Calls.STATE).refused("apart(1, 0, 1)", Calls.STATE).refused("apart(1, 0, 2)", Calls.STATE);
    }

    private static void daysToYearEnd() {
        new Run("48 daysToYearEnd")
            .due("daysToYearEnd(0)", 364)
            .call("of(0, 2024, 1, 1)").due("daysToYearEnd(0)", 365)
            .call("of(0, 2024, 2, 29)").due("daysToYearEnd(0)", 306)
            .call("of(0, 2023, 3, 1)").due("daysToYearEnd(0)", 305)
            .call("of(0, 9999, 12, 31)").due("daysToYearEnd(0)", 0)
            .call("of(0, -9999, 12, 30)").due("daysToYearEnd(0)", 1).due("house(0)", 5)
            .refused("daysToYearEnd(6)", Calls.INDEX).refused("daysToYearEnd(-1)", Calls.INDEX);
    }

    private static void sameDay() {
        new Run("49 sameDay")
            .call("of(0, 2024, 2, 29)")
            .due("sameDay(0, 2023)", 19416).due("sameDay(0, 2028)", 21243).due("sameDay(0, 2024)", 19782)
            .due("sameDay(0, 1900)", -25509).due("sameDay(0, 0)", -719469)
            .call("of(1, 2024, 12, 31)").due("sameDay(1, 9999)", 2932896)
            .due("sameDay(2, -9999)", -4371587).due("text(0)", "2024-02-29").due("house(0)", 2)
            .refused("sameDay(6, 0)", Calls.INDEX).refused("sameDay(-1, 10000)", Calls.INDEX)
            .refused("sameDay(0, 10000)", Calls.ARGUMENT).refused("sameDay(0, -10000)", Calls.ARGUMENT);
    }
}
