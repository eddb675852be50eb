/** Promises 1 to 7: a new object, and what a place is given. */
public final class GivenTest {
    public static void main(String[] args) {
        newObject();
        of();
        ofDay();
        ofYearDay();
        copy();
        epoch();
        swap();
        Run.end();
    }

    private static void newObject() {
        Run run = new Run("1 a new object");
        for (int place = 0; place < 6; place++) {
            run.due("toDay(" + place + ")", 0);
            run.due("text(" + place + ")", "1970-01-01");
        }
        for (int what = 0; what < 3; what++) {
            run.due("ofSpan(0, " + what + ")", 0).due("ofSpan(1, " + what + ")", 0).due("house(" + what + ")", 0);
        }
        run.due("toDay(6)", Calls.INDEX).due("toDay(-1)", Calls.INDEX);
        run.due("ofSpan(2, 0)", Calls.INDEX).due("ofSpan(-1, 0)", Calls.INDEX);
    }

    private static void of() {
        new Run("2 of")
            .due("of(0, 2024, 2, 29)", 19782).due("text(0)", "2024-02-29").due("house(0)", 1)
            .due("of(5, 2023, 12, 31)", 19722).due("text(5)", "2023-12-31").due("toDay(4)", 0)
            .due("of(1, -9999, 1, 1)", -4371587).due("of(2, 9999, 12, 31)", 2932896)
            .due("of(3, 0, 1, 1)", -719528).due("of(3, 1, 1, 1)", -719162).due("of(3, -1, 12, 31)", -719529)
            .due("of(3, 0, 2, 29)", -719469).due("of(3, -4, 2, 29)", -720930).due("of(3, 2000, 2, 29)", 11016)
            .due("of(3, 1969, 12, 31)", -1).due("house(0)", 11);
        new Run("2 of: refused")
            .call("of(0, 2024, 2, 29)")
            .refused("of(6, 2024, 1, 1)", Calls.INDEX).refused("of(-1, 2024, 1, 1)", Calls.INDEX)
            .refused("of(6, 10000, 13, 32)", Calls.INDEX).refused("of(6, 2023, 2, 29)", Calls.INDEX)
            .refused("of(0, 10000, 1, 1)", Calls.ARGUMENT).refused("of(0, -10000, 1, 1)", Calls.ARGUMENT)
            .refused("of(0, 2024, 13, 1)", Calls.ARGUMENT).refused("of(0, 2024, 0, 1)", Calls.ARGUMENT)
            .refused("of(0, 2024, 1, 32)", Calls.ARGUMENT).refused("of(0, 2024, 1, 0)", Calls.ARGUMENT)
            .refused("of(0, 2024, 1, -5)", Calls.ARGUMENT).refused("of(0, 2023, 2, 32)", Calls.ARGUMENT)
            .refused("of(0, 10000, 2, 30)", Calls.ARGUMENT)
            .refused("of(0, 2024, 2, 30)", Calls.STATE).refused("of(0, 2023, 2, 29)", Calls.STATE)
            .refused("of(0, 1900, 2, 29)", Calls.STATE).refused("of(0, -100, 2, 29)", Calls.STATE)
            .refused("of(0, 2024, 4, 31)", Calls.STATE).refused("of(0, 2024, 6, 31)", Calls.STATE)
            .refused("of(0, 2024, 9, 31)", Calls.STATE).refused("of(0, 2024, 11, 31)", Calls.STATE)
            .due("text(0)", "2024-02-29").due("house(0)", 1);
    }

    private static void ofDay() {
        new Run("3 ofDay")
            .due("ofDay(0, 2932896)", 2932896).due("text(0)", "9999-12-31")
            .due("ofDay(1, -4371587)", -4371587).due("year(1)", -9999).due("month(1)", 1).due("day(1)", 1)
            .due("ofDay(2, 11016)", 11016).due("text(2)", "2000-02-29")
            .due("ofDay(2, 11017)", 11017).due("text(2)", "2000-03-01")
            .due("ofDay(2, -25509)", -25509).due("text(2)", "1900-02-28")
            .due("ofDay(2, -25508)", -25508).due("text(2)", "1900-03-01")
            .due("ofDay(2, -719529)", -719529).due("year(2)", -1).due("month(2)", 12).due("day(2)", 31)
            .due("ofDay(2, 0)", 0).due("text(2)", "1970-01-01").due("house(0)", 8);
        new Run("3 ofDay: refused")
            .call("ofDay(2, 77)")
            .refused("ofDay(6, 0)", Calls.INDEX).refused("ofDay(-1, 0)", Calls.INDEX)
            .refused("ofDay(6, 2932897)", Calls.INDEX)
            .refused("ofDay(2, 2932897)", Calls.ARGUMENT).refused("ofDay(2, -4371588)", Calls.ARGUMENT)
            .refused("ofDay(2, 2147483647)", Calls.ARGUMENT).refused("ofDay(2, -2147483648)", Calls.ARGUMENT)
            .due("toDay(2)", 77);
    }

    private static void ofYearDay() {
        new Run("4 ofYearDay")
            .due("ofYearDay(0, 2024, 366)", 20088).due("text(0)", "2024-12-31")
            .due("ofYearDay(0, 2023, 365)", 19722).due("text(0)", "2023-12-31")
            .due("ofYearDay(0, 2024, 60)", 19782).due("text(0)", "2024-02-29")
            .due("ofYearDay(0, 2023, 60)", 19417).due("text(0)", "2023-03-01")
            .due("ofYearDay(0, 2023, 31)", 19388).due("text(0)", "2023-01-31")
            .due("ofYearDay(0, 2023, 32)", 19389).due("text(0)", "2023-02-01")
            .due("ofYearDay(0, -9999, 1)", -4371587).due("ofYearDay(0, 9999, 365)", 2932896)
            .due("ofYearDay(0, 0, 366)", -719163).due("text(0)", "0000-12-31").due("house(0)", 9);
        new Run("4 ofYearDay: refused")
            .call("of(0, 2024, 2, 29)")
            .refused("ofYearDay(6, 2024, 1)", Calls.INDEX).refused("ofYearDay(-1, 10000, 0)", Calls.INDEX)
            .refused("ofYearDay(6, 2023, 366)", Calls.INDEX)
            .refused("ofYearDay(0, 10000, 1)", Calls.ARGUMENT).refused("ofYearDay(0, -10000, 1)", Calls.ARGUMENT)
            .refused("ofYearDay(0, 2024, 0)", Calls.ARGUMENT).refused("ofYearDay(0, 2024, 367)", Calls.ARGUMENT)
            .refused("ofYearDay(0, 2023, 367)", Calls.ARGUMENT).refused("ofYearDay(0, 10001, 366)", Calls.ARGUMENT)
            .refused("ofYearDay(0, 2023, 366)", Calls.STATE).refused("ofYearDay(0, 1900, 366)", Calls.STATE)
            .refused("ofYearDay(0, -100, 366)", Calls.STATE)
            .due("text(0)", "2024-02-29");
    }

    private static void copy() {
        new Run("5 copy")
            .call("of(1, 2023, 5, 31)")
            .due("copy(0, 1)", 19508).due("text(0)", "2023-05-31").due("text(1)", "2023-05-31")
            .due("copy(1, 1)", 19508).due("text(1)", "2023-05-31").due("house(0)", 3)
            .call("plusDays(0, 1)").due("toDay(1)", 19508)
            .due("copy(1, 5)", 0).due("toDay(1)", 0).due("toDay(0)", 19509)
            .refused("copy(6, 0)", Calls.INDEX).refused("copy(0, 6)", Calls.INDEX)
            .refused("copy(-1, 0)", Calls.INDEX).refused("copy(0, -1)", Calls.INDEX);
    }

    private static void epoch() {
        new Run("6 epoch")
            .call("of(1, 2023, 5, 31)").call("of(0, -5, 5, 31)")
            .due("epoch(1)", 19508).due("toDay(1)", 0).due("text(1)", "1970-01-01").due("epoch(1)", 0)
            .due("house(0)", 4).due("year(0)", -5)
            .refused("epoch(6)", Calls.INDEX).refused("epoch(-1)", Calls.INDEX);
    }

    private static void swap() {
        new Run("7 swap")
            .call("of(0, 2023, 5, 31)").call("of(1, 2024, 2, 29)")
            .due("swap(0, 1)", 19782).due("text(0)", "2024-02-29").due("text(1)", "2023-05-31")
            .due("swap(1, 0)", 19782).due("text(0)", "2023-05-31").due("text(1)", "2024-02-29")
            .due("swap(1, 1)", 19782).due("text(1)", "2024-02-29").due("house(0)", 5)
            .refused("swap(6, 0)", Calls.INDEX).refused("swap(0, 6)", Calls.INDEX)
            .refused("swap(-1, 0)", Calls.INDEX).refused("swap(0, -1)", Calls.INDEX);
    }
}
