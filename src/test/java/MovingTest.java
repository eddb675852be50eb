/** Promises 14 to 21: moving by days, weeks, months and years. */
public final class MovingTest {
    private static final String[] UNITS = {"Days", "Weeks", "Months", "Years"};

    public static void main(String[] args) {
        days();
        weeks();
        months();
        years();
        edgesOfTheCalendar();
        refusals();
        Run.end();
    }

    private static void days() {
        new Run("14 plusDays, 18 minusDays")
            .call("of(0, 2024, 2, 28)")
            .due("plusDays(0, 1)", 19782).due("text(0)", "2024-02-29")
            .due("plusDays(0, 1)", 19783).due("text(0)", "2024-03-01")
            .due("minusDays(0, 1)", 19782).due("text(0)", "2024-02-29")
            .due("plusDays(0, -366)", 19416).due("text(0)", "2023-02-28")
            .due("minusDays(0, -1)", 19417).due("text(0)", "2023-03-01")
            .due("plusDays(0, 0)", 19417).due("minusDays(0, 0)", 19417)
            .due("plusDays(0, 200000)", 219417).due("minusDays(0, 200000)", 19417)
            .due("plusDays(0, -200000)", -180583).due("minusDays(0, -200000)", 19417)
            .due("toDay(1)", 0).due("house(0)", 12);
    }

    private static void weeks() {
        new Run("15 plusWeeks, 19 minusWeeks")
            .call("of(0, 2024, 2, 22)")
            .due("plusWeeks(0, 1)", 19782).due("text(0)", "2024-02-29")
            .due("plusWeeks(0, -1)", 19775).due("minusWeeks(0, 1)", 19768).due("minusWeeks(0, -2)", 19782)
            .due("plusWeeks(0, 0)", 19782).due("minusWeeks(0, 0)", 19782)
            .due("plusWeeks(0, 200000)", 1419782).due("minusWeeks(0, 200000)", 19782)
            .due("plusWeeks(0, -200000)", -1380218).due("minusWeeks(0, -200000)", 19782)
            .due("house(0)", 11);
    }

    private static void months() {
        new Run("16 plusMonths, 20 minusMonths")
            .call("of(0, 2023, 1, 31)")
            .due("plusMonths(0, 1)", 19416).due("text(0)", "2023-02-28")
            .due("plusMonths(0, 1)", 19444).due("text(0)", "2023-03-28")
            .call("of(0, 2023, 1, 31)").due("plusMonths(0, 2)", 19447).due("text(0)", "2023-03-31")
            .due("plusMonths(0, 9)", 19722).due("text(0)", "2023-12-31")
            .due("plusMonths(0, 1)", 19753).due("text(0)", "2024-01-31")
            .due("minusMonths(0, 1)", 19722).due("text(0)", "2023-12-31")
            .due("minusMonths(0, 22)", 19051).due("text(0)", "2022-02-28")
            .due("plusMonths(0, -2)", 18989).due("text(0)", "2021-12-28")
            .due("minusMonths(0, -26)", 19781).due("text(0)", "2024-02-28")
            .due("plusMonths(0, 0)", 19781).due("minusMonths(0, 0)", 19781)
            .call("of(0, 0, 1, 31)").due("minusMonths(0, 1)", -719529).due("year(0)", -1).due("month(0)", 12)
            .due("plusMonths(0, 2)", -719469).due("text(0)", "0000-02-29")
            .due("plusMonths(0, 14)", -719044).due("text(0)", "0001-04-29").due("house(0)", 17);
    }

    private static void years() {
        new Run("17 plusYears, 21 minusYears")
            .call("of(0, 2024, 2, 29)")
            .due("plusYears(0, 1)", 20147).due("text(0)", "2025-02-28")
            .due("plusYears(0, 3)", 21242).due("text(0)", "2028-02-28")
            .call("of(0, 2024, 2, 29)").due("plusYears(0, 4)", 21243).due("text(0)", "2028-02-29")
            .due("minusYears(0, 128)", -25509).due("text(0)", "1900-02-28")
            .due("plusYears(0, -1900)", -719470).due("text(0)", "0000-02-28")
            .due("minusYears(0, -2000)", 11015).due("plusYears(0, 0)", 11015).due("minusYears(0, 0)", 11015)
            .call("of(0, 0, 5, 5)").due("minusYears(0, 9999)", -4371463).due("year(0)", -9999)
            .due("plusYears(0, 19998)", 2932656).due("text(0)", "9999-05-05").due("house(0)", 13);
    }

    private static void edgesOfTheCalendar() {
        new Run("behind the last day")
            .call("ofDay(0, 2932896)")
            .refused("plusDays(0, 1)", Calls.STATE).refused("plusWeeks(0, 1)", Calls.STATE)
            .refused("plusMonths(0, 1)", Calls.STATE).refused("plusYears(0, 1)", Calls.STATE)
            .refused("minusDays(0, -1)", Calls.STATE).refused("minusWeeks(0, -1)", Calls.STATE)
            .refused("minusMonths(0, -1)", Calls.STATE).refused("minusYears(0, -1)", Calls.STATE)
            .refused("plusDays(0, 200000)", Calls.STATE).refused("plusWeeks(0, 200000)", Calls.STATE)
            .refused("plusMonths(0, 200000)", Calls.STATE).refused("plusYears(0, 200000)", Calls.STATE)
            .due("plusDays(0, 0)", 2932896).due("text(0)", "9999-12-31")
            .due("minusMonths(0, 1)", 2932865).due("text(0)", "9999-11-30")
            .due("plusMonths(0, 1)", 2932895).due("text(0)", "9999-12-30").due("plusDays(0, 1)", 2932896);
        new Run("ahead of the first day")
            .call("ofDay(0, -4371587)")
            .refused("plusDays(0, -1)", Calls.STATE).refused("plusWeeks(0, -1)", Calls.STATE)
            .refused("plusMonths(0, -1)", Calls.STATE).refused("plusYears(0, -1)", Calls.STATE)
            .refused("minusDays(0, 1)", Calls.STATE).refused("minusWeeks(0, 1)", Calls.STATE)
            .refused("minusMonths(0, 1)", Calls.STATE).refused("minusYears(0, 1)", Calls.STATE)
            .refused("minusDays(0, 200000)", Calls.STATE).refused("minusWeeks(0, 200000)", Calls.STATE)
            .refused("minusMonths(0, 200000)", Calls.STATE).refused("minusYears(0, 200000)", Calls.STATE)
            .due("minusDays(0, 0)", -4371587)
            .due("plusMonths(0, 1)", -4371556).due("plusDays(0, -31)", -4371587)
            .due("plusWeeks(0, 1)", -4371580).due("minusWeeks(0, 1)", -4371587);
    }

    private static void refusals() {
        for (String unit : UNITS) {
            for (String way : new String[] {"plus", "minus"}) {
                String name = way + unit;
                Run run = new Run(name + ": refused");
                run.call("ofDay(3, -4371587)").call("ofDay(4, 2932896)");
                for (String many : new String[] {"200001", "-200001", "2147483647", "-2147483648"}) {
                    run.refused(name + "(6, " + many + ")", Calls.INDEX).refused(name + "(-1, " + many + ")", Calls.INDEX);
                    for (int place = 2; place <= 4; place++) {
                        run.refused(name + "(" + place + ", " + many + ")", Calls.ARGUMENT);
                    }
                }
                run.refused(name + "(6, 0)", Calls.INDEX).refused(name + "(-1, 0)", Calls.INDEX);
                run.refused(name + "(2147483647, 0)", Calls.INDEX).refused(name + "(-2147483648, 0)", Calls.INDEX);
                run.due("house(0)", 2);
            }
        }
    }
}
