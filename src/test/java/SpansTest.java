/** Promises 22 to 27: spans. */
public final class SpansTest {
    public static void main(String[] args) {
        span();
        until();
        addSpan();
        ofSpan();
        plusSpan();
        minusSpan();
        onTheWayBeyondTheCalendar();
        Run.end();
    }

    private static void span() {
        new Run("22 span")
            .due("span(0, 1, 2, 3)", 14).due("ofSpan(0, 0)", 1).due("ofSpan(0, 1)", 2).due("ofSpan(0, 2)", 3)
            .due("span(1, -1, 30, -400)", 18).due("ofSpan(1, 0)", -1).due("ofSpan(1, 1)", 30).due("ofSpan(1, 2)", -400)
            .due("ofSpan(0, 0)", 1)
            .due("span(0, 100000, 100000, 100000)", 1300000).due("span(0, -100000, -100000, -100000)", -1300000)
            .due("span(0, 0, 0, 0)", 0).due("house(0)", 5)
            .refused("span(2, 0, 0, 0)", Calls.INDEX).refused("span(-1, 100001, 0, 0)", Calls.INDEX)
            .refused("span(1, 100001, 0, 0)", Calls.ARGUMENT).refused("span(1, -100001, 0, 0)", Calls.ARGUMENT)
            .refused("span(1, 0, 100001, 0)", Calls.ARGUMENT).refused("span(1, 0, -100001, 0)", Calls.ARGUMENT)
            .refused("span(1, 0, 0, 100001)", Calls.ARGUMENT).refused("span(1, 0, 0, -100001)", Calls.ARGUMENT);
    }

    private static void until() {
        new Run("23 until")
            .call("of(0, 2023, 1, 31)").call("of(1, 2023, 3, 1)")
            .due("until(0, 0, 1)", 1).due("ofSpan(0, 0)", 0).due("ofSpan(0, 1)", 1).due("ofSpan(0, 2)", 1)
            .call("of(2, 1999, 12, 31)").call("of(3, 2024, 3, 29)")
            .due("until(1, 2, 3)", 29).due("ofSpan(1, 0)", 24).due("ofSpan(1, 1)", 2).due("ofSpan(1, 2)", 29)
            .call("of(2, 2020, 2, 29)").call("of(3, 2021, 2, 28)")
            .due("until(1, 2, 3)", 30).due("ofSpan(1, 0)", 0).due("ofSpan(1, 1)", 11).due("ofSpan(1, 2)", 30)
            .call("of(2, 2020, 5, 17)").call("of(3, 2023, 5, 17)")
            .due("until(1, 2, 3)", 0).due("ofSpan(1, 0)", 3).due("ofSpan(1, 1)", 0).due("ofSpan(1, 2)", 0)
            .call("of(2, 2020, 5, 17)").call("of(3, 2020, 5, 20)")
            .due("until(1, 2, 3)", 3).due("ofSpan(1, 0)", 0).due("ofSpan(1, 1)", 0).due("ofSpan(1, 2)", 3)
            .due("house(0)", 15)
            .due("until(1, 5, 5)", 0).due("ofSpan(1, 2)", 0)
            .call("ofDay(4, -4371587)").call("ofDay(5, 2932896)")
            .due("until(1, 4, 5)", 30).due("ofSpan(1, 0)", 19998).due("ofSpan(1, 1)", 11).due("ofSpan(1, 2)", 30);
        new Run("23 until: refused")
            .call("span(1, 1, 2, 3)").call("ofDay(0, 1)")
            .refused("until(2, 0, 0)", Calls.INDEX).refused("until(-1, 0, 0)", Calls.INDEX)
            .refused("until(1, 6, 0)", Calls.INDEX).refused("until(1, 0, 6)", Calls.INDEX)
            .refused("until(1, -1, 0)", Calls.INDEX).refused("until(1, 0, -1)", Calls.INDEX)
            .refused("until(2, 0, 1)", Calls.INDEX)
            .refused("until(1, 0, 1)", Calls.STATE).due("until(1, 1, 0)", 1);
    }

    private static void addSpan() {
        new Run("24 addSpan")
            .call("span(0, 1, 11, 30)").call("span(1, -5, 7, -100)")
            .due("addSpan(0, 1)", -70).due("ofSpan(0, 0)", -4).due("ofSpan(0, 1)", 18).due("ofSpan(0, 2)", -70)
            .due("ofSpan(1, 0)", -5).due("ofSpan(1, 1)", 7).due("ofSpan(1, 2)", -100)
            .due("addSpan(0, 0)", -140).due("ofSpan(0, 0)", -8).due("ofSpan(0, 1)", 36).due("house(0)", 4)
            .call("span(0, 60000, -60000, 60000)").call("span(1, 40000, -40000, 40000)")
            .due("addSpan(0, 1)", 100000).due("ofSpan(0, 0)", 100000).due("ofSpan(0, 1)", -100000)
            .refused("addSpan(0, 0)", Calls.STATE).refused("addSpan(0, 1)", Calls.STATE);
        new Run("24 addSpan: refused")
            .refused("addSpan(2, 0)", Calls.INDEX).refused("addSpan(0, 2)", Calls.INDEX)
            .refused("addSpan(-1, 0)", Calls.INDEX).refused("addSpan(0, -1)", Calls.INDEX)
            .call("span(0, 100000, 0, 0)").call("span(1, 1, 0, 0)").refused("addSpan(1, 0)", Calls.STATE)
            .call("span(0, -100000, 0, 0)").call("span(1, -1, 0, 0)").refused("addSpan(1, 0)", Calls.STATE)
            .call("span(0, 0, 100000, 0)").call("span(1, 0, 1, 0)").refused("addSpan(1, 0)", Calls.STATE)
            .call("span(0, 0, -100000, 0)").call("span(1, 0, -1, 0)").refused("addSpan(1, 0)", Calls.STATE)
            .call("span(0, 0, 0, 100000)").call("span(1, 0, 0, 1)").refused("addSpan(1, 0)", Calls.STATE)
            .call("span(0, 0, 0, -100000)").call("span(1, 0, 0, -1)").refused("addSpan(1, 0)", Calls.STATE)
            .refused("addSpan(0, 2)", Calls.INDEX).due("house(0)", 12);
    }

    private static void ofSpan() {
        new Run("25 ofSpan")
            .call("span(1, 7, 8, 9)")
            .due("ofSpan(1, 0)", 7).due("ofSpan(1, 1)", 8).due("ofSpan(1, 2)", 9).due("ofSpan(0, 1)", 0)
            .due("house(0)", 1)
            .refused("ofSpan(2, 0)", Calls.INDEX).refused("ofSpan(-1, 3)", Calls.INDEX)
            .refused("ofSpan(0, 3)", Calls.ARGUMENT).refused("ofSpan(0, -1)", Calls.ARGUMENT);
    }

    private static void plusSpan() {
        new Run("26 plusSpan")
            .call("of(0, 2023, 1, 31)").call("span(0, 1, 1, 1)")
            .due("plusSpan(0, 0)", 19783).due("text(0)", "2024-03-01")
            .call("of(0, 2024, 1, 31)").call("span(1, 0, 1, -29)")
            .due("plusSpan(0, 1)", 19753).due("text(0)", "2024-01-31")
            .call("span(1, 1, -12, 0)").due("plusSpan(0, 1)", 19753)
            // The MONTHS are added at once: by way of the year 2025 the DAY 29 would be lost.
            .call("of(0, 2024, 2, 29)").call("span(1, 1, 36, 0)").due("plusSpan(0, 1)", 21243)
            .due("ofSpan(1, 1)", 36).due("toDay(1)", 0).due("house(0)", 11)
            .refused("plusSpan(6, 0)", Calls.INDEX).refused("plusSpan(-1, 0)", Calls.INDEX)
            .refused("plusSpan(0, 2)", Calls.INDEX).refused("plusSpan(0, -1)", Calls.INDEX)
            .call("span(1, 100000, -100000, 100000)").refused("plusSpan(0, 1)", Calls.STATE)
            .refused("plusSpan(0, 2)", Calls.INDEX)
            .call("ofDay(0, 2932896)").call("span(1, 0, 0, 1)").refused("plusSpan(0, 1)", Calls.STATE)
            .call("ofDay(0, -4371587)").call("span(1, 0, 0, -1)").refused("plusSpan(0, 1)", Calls.STATE);
    }

    private static void minusSpan() {
        new Run("27 minusSpan")
            .call("of(0, 2024, 3, 31)").call("span(0, 1, 1, 1)")
            .due("minusSpan(0, 0)", 19415).due("text(0)", "2023-02-27")
            .call("of(0, 2024, 3, 31)").call("span(1, 0, 1, -1)")
            .due("minusSpan(0, 1)", 19783).due("text(0)", "2024-03-01")
            .call("span(1, -2, 24, 0)").due("minusSpan(0, 1)", 19783)
            .call("of(0, 2024, 2, 29)").call("span(1, 1, 36, 0)").due("minusSpan(0, 1)", 18321).due("text(0)", "2020-02-29")
            .due("ofSpan(1, 1)", 36).due("house(0)", 11)
            .refused("minusSpan(6, 0)", Calls.INDEX).refused("minusSpan(-1, 0)", Calls.INDEX)
            .refused("minusSpan(0, 2)", Calls.INDEX).refused("minusSpan(0, -1)", Calls.INDEX)
            .call("span(1, 100000, 100000, 100000)").refused("minusSpan(0, 1)", Calls.STATE)
            .call("span(1, -100000, -100000, -100000)").refused("minusSpan(0, 1)", Calls.STATE)
            .call("ofDay(0, 2932896)").call("span(1, 0, 0, -1)").refused("minusSpan(0, 1)", Calls.STATE)
            .call("ofDay(0, -4371587)").call("span(1, 0, 0, 1)").refused("minusSpan(0, 1)", Calls.STATE);
    }

    private static void onTheWayBeyondTheCalendar() {
        // The YEARS 10000 and -10000 are LEAP YEARS by the same rules.
        new Run("26, 27 on the way behind the last year")
            .call("of(0, 9999, 12, 31)").call("span(0, 0, 2, -59)").refused("plusSpan(0, 0)", Calls.STATE)
            .call("span(0, 0, 2, -60)").due("plusSpan(0, 0)", 2932896).due("text(0)", "9999-12-31")
            .call("span(0, 0, -2, 60)").due("minusSpan(0, 0)", 2932896)
            .call("span(0, 1, -10, -60)").due("plusSpan(0, 0)", 2932896)
            .call("span(0, 100000, -100000, 0)").refused("plusSpan(0, 0)", Calls.STATE)
            .call("of(1, 2024, 3, 31)").call("span(0, 8000, -96000, -31)").due("plusSpan(1, 0)", 19782)
            .call("span(1, 200, 0, -73050)").due("plusSpan(1, 1)", 19780);
        new Run("26, 27 on the way ahead of the first year")
            .call("of(0, -9999, 1, 31)").call("span(0, 0, -11, -28)").refused("plusSpan(0, 0)", Calls.STATE)
            .call("span(0, 0, 11, -306)").refused("minusSpan(0, 0)", Calls.STATE)
            .call("span(0, 0, 11, -307)").due("minusSpan(0, 0)", -4371587)
            .call("of(0, -9999, 1, 31)").call("span(0, 0, -11, 337)").due("plusSpan(0, 0)", -4371557)
            .call("span(0, -100000, 100000, 100000)").refused("plusSpan(0, 0)", Calls.STATE);
    }
}
