import java.time.LocalDate;
import java.time.Period;
import java.time.YearMonth;
import java.time.temporal.ChronoUnit;
import java.util.Arrays;

/** What Datesolo promises, told by java.time, which has the same rule of leap years. */
final class Model {
    private static final LocalDate EPOCH = LocalDate.ofEpochDay(0);
    private static final ChronoUnit[] UNITS = {
        ChronoUnit.DAYS, ChronoUnit.WEEKS, ChronoUnit.MONTHS, ChronoUnit.YEARS,
        ChronoUnit.DECADES, ChronoUnit.CENTURIES, ChronoUnit.MILLENNIA};

    private final LocalDate[] places = new LocalDate[6];
    private final int[][] spans = new int[2][3];
    private int given = 0;
    private int knocks = 0;

    Model() {
        Arrays.fill(places, EPOCH);
    }

    private static void index(int number, int size) {
        if (number < 0 || number >= size) {
            throw new IndexOutOfBoundsException();
        }
    }

    private static void argument(boolean allowed) {
        if (!allowed) {
            throw new IllegalArgumentException();
        }
    }

    private static void state(boolean allowed) {
        if (!allowed) {
            throw new IllegalStateException();
        }
    }

    private static boolean isYear(long year) {
        return year >= -9999 && year <= 9999;
    }

    private static boolean isAmount(int many) {
        return many >= -200000 && many <= 200000;
    }

    private LocalDate at(int place) {
        index(place, 6);
        return places[place];
    }

    private int give(int place, LocalDate date) {
        index(place, 6);
        state(isYear(date.getYear()));
        places[place] = date;
        given++;
        return (int) date.toEpochDay();
    }

    int of(int place, int year, int month, int day) {
        index(place, 6);
        state(isDate(year, month, day));
        return give(place, LocalDate.of(year, month, day));
    }

    int ofDay(int place, int number) {
        index(place, 6);
        argument(number >= -4371587 && number <= 2932896);
        return give(place, LocalDate.ofEpochDay(number));
    }

    int ofYearDay(int place, int year, int day) {
        index(place, 6);
        argument(isYear(year) && day >= 1 && day <= 366);
        state(day <= LocalDate.of(year, 1, 1).lengthOfYear());
        return give(place, LocalDate.ofYearDay(year, day));
    }

    int copy(int place, int other) {
        at(place);
        return give(place, at(other));
    }

    int epoch(int place) {
        int before = toDay(place);
        give(place, EPOCH);
        return before;
    }

    int swap(int place, int other) {
        LocalDate first = at(place);
        LocalDate second = at(other);
        places[other] = first;
        return give(place, second);
    }

    int withYear(int place, int year) {
        at(place);
        argument(isYear(year));
        return give(place, at(place).withYear(year));
    }

    int withMonth(int place, int month) {
        at(place);
        argument(month >= 1 && month <= 12);
        return give(place, at(place).withMonth(month));
    }

    int withDay(int place, int day) {
        at(place);
        argument(day >= 1 && day <= 31);
        state(day <= at(place).lengthOfMonth());
        return give(place, at(place).withDayOfMonth(day));
    }

    int withDayOfYear(int place, int day) {
        at(place);
        argument(day >= 1 && day <= 366);
        state(day <= at(place).lengthOfYear());
        return give(place, at(place).withDayOfYear(day));
    }

    int toFirst(int place) {
        return give(place, at(place).withDayOfMonth(1));
    }

    int toLast(int place) {
        return give(place, YearMonth.from(at(place)).atEndOfMonth());
    }

    private int move(int place, long many, int amount, ChronoUnit unit) {
        at(place);
        argument(isAmount(amount));
        return give(place, at(place).plus(many, unit));
    }

    int plusDays(int place, int many) {
        return move(place, many, many, ChronoUnit.DAYS);
    }

    int plusWeeks(int place, int many) {
        return move(place, many, many, ChronoUnit.WEEKS);
    }

    int plusMonths(int place, int many) {
        return move(place, many, many, ChronoUnit.MONTHS);
    }

    int plusYears(int place, int many) {
        return move(place, many, many, ChronoUnit.YEARS);
    }

    int minusDays(int place, int many) {
        return move(place, -(long) many, many, ChronoUnit.DAYS);
    }

    int minusWeeks(int place, int many) {
        return move(place, -(long) many, many, ChronoUnit.WEEKS);
    }

    int minusMonths(int place, int many) {
        return move(place, -(long) many, many, ChronoUnit.MONTHS);
    }

    int minusYears(int place, int many) {
        return move(place, -(long) many, many, ChronoUnit.YEARS);
    }

    int span(int span, int years, int months, int days) {
        index(span, 2);
        int[] numbers = {years, months, days};
        argument(areOfSpan(numbers));
        spans[span] = numbers;
        given++;
        return (int) Period.of(years, months, days).toTotalMonths();
    }

    private static boolean areOfSpan(int[] numbers) {
        return Arrays.stream(numbers).allMatch(number -> number >= -100000 && number <= 100000);
    }

    int until(int span, int from, int to) {
        index(span, 2);
        Period period = period(from, to, true);
        spans[span] = new int[] {period.getYears(), period.getMonths(), period.getDays()};
        given++;
        return period.getDays();
    }

    private Period period(int from, int to, boolean allowed) {
        at(from);
        at(to);
        argument(allowed);
        state(!at(to).isBefore(at(from)));
        return Period.between(at(from), at(to));
    }

    int addSpan(int span, int other) {
        index(span, 2);
        index(other, 2);
        int[] sums = new int[3];
        Arrays.setAll(sums, what -> spans[span][what] + spans[other][what]);
        state(areOfSpan(sums));
        spans[span] = sums;
        given++;
        return sums[2];
    }

    int ofSpan(int span, int what) {
        index(span, 2);
        argument(what >= 0 && what <= 2);
        return spans[span][what];
    }

    int plusSpan(int place, int span) {
        at(place);
        index(span, 2);
        return give(place, at(place).plus(Period.of(spans[span][0], spans[span][1], spans[span][2])));
    }

    int minusSpan(int place, int span) {
        at(place);
        index(span, 2);
        return give(place, at(place).minus(Period.of(spans[span][0], spans[span][1], spans[span][2])));
    }

    int year(int place) {
        return at(place).getYear();
    }

    int month(int place) {
        return at(place).getMonthValue();
    }

    int day(int place) {
        return at(place).getDayOfMonth();
    }

    int dayOfYear(int place) {
        return at(place).getDayOfYear();
    }

    int dayOfWeek(int place) {
        return at(place).getDayOfWeek().getValue();
    }

    int laterDayOfWeek(int place, int many) {
        at(place);
        argument(isAmount(many));
        return at(place).plusDays(many).getDayOfWeek().getValue();
    }

    int lengthOfMonth(int place) {
        return at(place).lengthOfMonth();
    }

    int lengthOfYear(int place) {
        return at(place).lengthOfYear();
    }

    boolean isLeapYear(int place) {
        return at(place).isLeapYear();
    }

    int field(int place, int what) {
        at(place);
        argument(what >= 0 && what <= 5);
        java.time.temporal.ChronoField[] fields = {
            java.time.temporal.ChronoField.ALIGNED_DAY_OF_WEEK_IN_MONTH,
            java.time.temporal.ChronoField.ALIGNED_WEEK_OF_MONTH,
            java.time.temporal.ChronoField.ALIGNED_DAY_OF_WEEK_IN_YEAR,
            java.time.temporal.ChronoField.ALIGNED_WEEK_OF_YEAR,
            java.time.temporal.ChronoField.YEAR_OF_ERA,
            java.time.temporal.ChronoField.ERA};
        return at(place).get(fields[what]);
    }

    int toDay(int place) {
        return (int) at(place).toEpochDay();
    }

    String text(int place) {
        return at(place).getYear() < 0 ? "?" : at(place).toString();
    }

    boolean isDate(int year, int month, int day) {
        argument(isYear(year) && month >= 1 && month <= 12 && day >= 1 && day <= 31);
        return YearMonth.of(year, month).isValidDay(day);
    }

    int wouldBe(int place, int unit, int many) {
        at(place);
        argument(unit >= 0 && unit <= 6 && isAmount(many));
        LocalDate moved = at(place).plus(many, UNITS[unit]);
        state(isYear(moved.getYear()));
        return (int) moved.toEpochDay();
    }

    int compare(int place, int other) {
        return Integer.signum(at(place).compareTo(at(other)));
    }

    boolean isBefore(int place, int other) {
        return at(place).isBefore(at(other));
    }

    boolean isAfter(int place, int other) {
        return at(place).isAfter(at(other));
    }

    boolean isSame(int place, int other) {
        return at(place).isEqual(at(other));
    }

    int between(int from, int to, int unit) {
        at(from);
        at(to);
        argument(unit >= 0 && unit <= 6);
        return (int) UNITS[unit].between(at(from), at(to));
    }

    int apart(int from, int to, int what) {
        Period period = period(from, to, what >= 0 && what <= 2);
        return (int) period.get(UNITS[new int[] {3, 2, 0}[what]]);
    }

    int daysToYearEnd(int place) {
        return (int) ChronoUnit.DAYS.between(at(place), LocalDate.of(at(place).getYear(), 12, 31));
    }

    int sameDay(int place, int year) {
        at(place);
        argument(isYear(year));
        return (int) at(place).withYear(year).toEpochDay();
    }

    int reset() {
        int others = 6 - (int) Arrays.stream(places).filter(EPOCH::isEqual).count();
        Arrays.fill(places, EPOCH);
        spans[0] = new int[3];
        spans[1] = new int[3];
        return others;
    }

    int house(int what) {
        argument(what >= 0 && what <= 2);
        int sum = (int) Arrays.stream(places).mapToLong(LocalDate::toEpochDay).sum();
        return new int[] {given, knocks, sum}[what];
    }

    int knock() {
        knocks++;
        return knocks;
    }

    boolean isSound() {
        return true;
    }

    long digest() {
        long[] sum = {7787};
        for (int place = 0; place < 6; place++) {
            add(sum, toDay(place), year(place), month(place), day(place), dayOfYear(place), dayOfWeek(place),
                lengthOfMonth(place), lengthOfYear(place), isLeapYear(place) ? 1 : 0);
            for (int what = 0; what < 6; what++) {
                add(sum, field(place, what));
            }
            add(sum, text(place).length());
        }
        add(sum, spans[0]);
        add(sum, spans[1]);
        for (int place = 0; place < 5; place++) {
            add(sum, compare(place, place + 1));
            for (int unit = 0; unit < 7; unit++) {
                add(sum, between(place, place + 1, unit));
            }
        }
        add(sum, house(0), house(1), house(2), 1);
        return sum[0];
    }

    private static void add(long[] sum, int... values) {
        for (int value : values) {
            sum[0] = sum[0] * 31 + value;
        }
    }
}
