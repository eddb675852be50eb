import java.lang.reflect.Field;
import java.math.BigInteger;

/** The boundary cases of the promises 50 to 54: a test for each sentence. */
public final class AllEdgesTest {
    private static final long[] PLACE_AT_FIRST = {0, 1970, 1, 1, 1, 4, 31, 365, 0, 1, 1, 1, 1, 1970, 1, 10};
    private static final long[] FIRST_DATE = {-4371587, -9999, 1, 1, 1, 1, 31, 365, 0, 1, 1, 1, 1, 10000, 0, 1};
    private static final long[] LAST_DATE = {2932896, 9999, 12, 31, 365, 5, 31, 365, 0, 3, 5, 1, 53, 9999, 1, 10};

    public static void main(String[] args) throws ReflectiveOperationException {
        resetOfNothing();
        resetOfOneDayOff();
        resetOfAll();
        resetIsNotCounted();
        refusedCallsAreNotCounted();
        greatestAndLeastSum();
        lastOfManyCalls();
        soundAtTheEdges();
        soundOnEachSide();
        notSoundWithWhatIsNoDate();
        digestWrapsAround();
        digestOfTheEdges();
        Run.end();
    }

    private static void resetOfNothing() {
        new Run("reset of a new object").due("reset()", 0).due("reset()", 0).due("house(0)", 0).due("house(2)", 0);
        new Run("reset of PLACES that were given the DATE that they had")
            .call("ofDay(0, 0)").call("of(1, 1970, 1, 1)").call("epoch(2)").call("copy(3, 4)").due("reset()", 0);
    }

    private static void resetOfOneDayOff() {
        for (int place = 0; place <= 5; place++) {
            new Run("reset of a day behind and of one ahead")
                .call("ofDay(" + place + ", 1)").due("reset()", 1).due("toDay(" + place + ")", 0)
                .call("ofDay(" + place + ", -1)").due("reset()", 1).due("toDay(" + place + ")", 0).due("reset()", 0);
        }
    }

    private static void resetOfAll() {
        Run run = new Run("reset of all");
        for (int place = 0; place <= 5; place++) {
            run.call("ofDay(" + place + ", " + (place % 2 == 0 ? -4371587 : 2932896) + ")");
        }
        run.call("span(0, 100000, 100000, 100000)").call("span(1, -100000, -100000, -100000)").due("reset()", 6);
        for (int place = 0; place <= 5; place++) {
            run.due("toDay(" + place + ")", 0).due("text(" + place + ")", "1970-01-01");
        }
        for (int what = 0; what <= 2; what++) {
            run.due("ofSpan(0, " + what + ")", 0).due("ofSpan(1, " + what + ")", 0);
        }
        new Run("reset of SPANS alone")
            .call("span(0, 1, 2, 3)").call("span(1, 4, 5, 6)").due("reset()", 0)
            .due("ofSpan(0, 0)", 0).due("ofSpan(0, 1)", 0).due("ofSpan(0, 2)", 0)
            .due("ofSpan(1, 0)", 0).due("ofSpan(1, 1)", 0).due("ofSpan(1, 2)", 0);
    }

    private static void resetIsNotCounted() {
        new Run("reset sets back what promise 50 says, no more")
            .call("ofDay(0, 5)").call("span(0, 1, 2, 3)").calls("knock()", "knock()", "knock()").due("reset()", 1)
            .due("house(0)", 2).due("house(1)", 3).due("house(2)", 0).due("knock()", 4).call("ofDay(0, 5)").due("house(0)", 3);
    }

    private static void refusedCallsAreNotCounted() {
        notCounted(Calls.INDEX, "copy(0, 6)", "epoch(6)", "swap(0, 6)", "toFirst(6)", "toLast(6)");
        notCounted(Calls.ARGUMENT, "ofDay(0, 2932897)", "withYear(0, 10000)", "withMonth(0, 13)", "withDay(0, 32)",
            "span(0, 0, 0, 100001)", "ofSpan(0, 3)");
        notCounted(Calls.STATE, "of(0, 2023, 2, 29)", "ofYearDay(0, 2023, 366)", "withDayOfYear(0, 366)",
            "plusDays(1, 1)", "plusWeeks(1, 1)", "plusMonths(1, 1)", "plusYears(1, 1)",
            "minusDays(2, 1)", "minusWeeks(2, 1)", "minusMonths(2, 1)", "minusYears(2, 1)",
            "until(0, 1, 2)", "addSpan(1, 1)", "plusSpan(1, 0)", "minusSpan(2, 0)");
    }

    private static void notCounted(String exception, String... calls) {
        for (String call : calls) {
            new Run("a call that throws is not counted")
                .call("of(0, 2023, 2, 28)").call("ofDay(1, 2932896)").call("ofDay(2, -4371587)")
                .call("span(0, 0, 0, 1)").call("span(1, 50001, 0, 0)").call("knock()")
                .refused(call, exception)
                .due("house(0)", 5).due("house(1)", 1).due("house(2)", 19416 + 2932896 - 4371587);
        }
    }

    private static void greatestAndLeastSum() {
        Run last = new Run("the greatest sum of all DAY NUMBERS");
        Run first = new Run("the least sum of all DAY NUMBERS");
        for (int place = 0; place <= 5; place++) {
            last.call("ofDay(" + place + ", 2932896)").due("house(2)", 2932896 * (place + 1));
            first.call("ofDay(" + place + ", -4371587)").due("house(2)", -4371587 * (place + 1));
        }
        last.due("house(2)", 17597376).refused("house(3)", Calls.ARGUMENT).refused("house(-1)", Calls.ARGUMENT);
        first.due("house(2)", -26229522).refused("house(3)", Calls.ARGUMENT).refused("house(-1)", Calls.ARGUMENT);
    }

    /** An object is good for 512 calls: the last of them counts what the others did. */
    private static void lastOfManyCalls() {
        Datesolo giving = new Datesolo();
        Datesolo knocking = new Datesolo();
        for (int i = 1; i <= 511; i++) {
            Run.same("the day behind call " + i, giving.plusDays(0, 1), i);
            Run.same("knock " + i, knocking.knock(), i);
        }
        Run.same("house(0) as the call 512", giving.house(0), 511);
        Run.same("house(1) as the call 512", knocking.house(1), 511);
    }

    private static void soundAtTheEdges() {
        Run run = new Run("isSound with the last and the first DATE").asked("isSound()", true);
        for (int place = 0; place <= 5; place++) {
            run.call("ofDay(" + place + ", 2932896)").asked("isSound()", true);
        }
        for (int place = 0; place <= 5; place++) {
            run.call("ofDay(" + place + ", -4371587)").asked("isSound()", true);
        }
        run.due("house(0)", 12).due("toDay(0)", -4371587);
    }

    private static void soundOnEachSide() {
        String[] dates = {
            "2024, 2, 28", "2024, 2, 29", "2024, 3, 1", "2023, 2, 28", "2023, 3, 1", "2023, 12, 31", "0, 1, 1", "0, 2, 29",
            "0, 12, 31", "-1, 12, 31", "-1, 2, 28", "1, 1, 1", "1900, 2, 28", "2000, 2, 29", "-100, 2, 28", "-400, 2, 29",
            "-9999, 1, 31", "-9999, 12, 31", "9999, 1, 1", "9999, 12, 30"};
        Run run = new Run("isSound about the boundary cases");
        for (int i = 0; i < dates.length; i++) {
            run.call("of(" + i % 6 + ", " + dates[i] + ")").asked("isSound()", true);
        }
    }

    /** No call leads to what is no DATE, so it is put where the object holds its DATES: YEAR, MONTH and DAY in one long. */
    private static void notSoundWithWhatIsNoDate() throws ReflectiveOperationException {
        int[][] none = {{2023, 2, 29}, {2023, 4, 31}, {2024, 2, 30}, {-1, 2, 29}, {2023, 3, 0}, {2023, 13, 1}, {2023, 0, 31}};
        Field field = Datesolo.class.getDeclaredField("dates");
        field.setAccessible(true);
        for (int place = 0; place <= 5; place++) {
            for (int[] date : none) {
                Datesolo dates = new Datesolo();
                long[] held = (long[]) field.get(dates);
                held[place] = ((long) date[0] << 9) + (date[1] << 5) + date[2];
                Run.same("isSound with " + date[0] + ", " + date[1] + ", " + date[2], dates.isSound(), false);
                Run.same("digest of what is not sound", dates.digest(), toldByAsking(dates, 0));
                dates.epoch(place);
                Run.same("isSound again", dates.isSound(), true);
                Run.same("digest of what is sound again", dates.digest(), toldByAsking(dates, 1));
            }
        }
    }

    /** The digest, put together from what the object answers to each question. */
    private static long toldByAsking(Datesolo dates, int sound) {
        BigInteger sum = BigInteger.valueOf(7787);
        for (int place = 0; place <= 5; place++) {
            sum = with(sum, dates.toDay(place), dates.year(place), dates.month(place), dates.day(place), dates.dayOfYear(place),
                dates.dayOfWeek(place), dates.lengthOfMonth(place), dates.lengthOfYear(place), dates.isLeapYear(place) ? 1 : 0);
            for (int what = 0; what <= 5; what++) {
                sum = with(sum, dates.field(place, what));
            }
            sum = with(sum, dates.text(place).length());
        }
        for (int what = 0; what <= 5; what++) {
            sum = with(sum, dates.ofSpan(what / 3, what % 3));
        }
        for (int place = 0; place <= 4; place++) {
            sum = with(sum, dates.compare(place, place + 1));
            for (int unit = 0; unit <= 6; unit++) {
                sum = with(sum, dates.between(place, place + 1, unit));
            }
        }
        return with(sum, dates.house(0), dates.house(1), dates.house(2), sound).longValue();
    }

    private static void digestWrapsAround() {
        BigInteger sum = BigInteger.valueOf(7787);
        for (int place = 0; place <= 5; place++) {
            sum = with(sum, PLACE_AT_FIRST);
        }
        sum = with(with(sum, new long[6 + 5 * 8]), 0, 0, 0, 1);
        Run.same("the sum is more than 64 bits hold", sum.bitLength() > 64, true);
        new Run("digest wraps around").asked("digest()", sum.longValue());
    }

    private static void digestOfTheEdges() {
        BigInteger sum = BigInteger.valueOf(7787);
        for (int pair = 0; pair < 3; pair++) {
            sum = with(with(sum, FIRST_DATE), LAST_DATE);
        }
        sum = with(sum, 100000, 100000, 100000, -100000, -100000, -100000);
        for (int pair = 0; pair < 5; pair++) {
            long sign = pair % 2 == 0 ? 1 : -1;
            sum = with(sum, -sign, 7304483 * sign, 1043497 * sign, 239987 * sign, 19998 * sign, 1999 * sign, 199 * sign, 19 * sign);
        }
        sum = with(sum, 8, 1, 3 * (2932896 - 4371587), 1);
        Run run = new Run("digest of the first and the last DATE, and of the least and the greatest SPAN");
        for (int place = 0; place <= 5; place++) {
            run.call("ofDay(" + place + ", " + (place % 2 == 0 ? -4371587 : 2932896) + ")");
        }
        run.call("span(0, 100000, 100000, 100000)").call("span(1, -100000, -100000, -100000)").call("knock()")
            .asked("digest()", sum.longValue()).due("digest()", sum.longValue());
    }

    private static BigInteger with(BigInteger before, long... values) {
        BigInteger sum = before;
        for (long value : values) {
            sum = sum.multiply(BigInteger.valueOf(31)).add(BigInteger.valueOf(value));
        }
        return sum;
    }
}
