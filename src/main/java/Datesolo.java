/** Days of a calendar that goes on for ever by one rule of leap years, as ../shared/DOC.md promises them. */
public final class Datesolo {
    private static final int PLACES = 6;
    private static final int SPANS = 2;
    private static final int FIRST_YEAR = -9999;
    private static final int LAST_YEAR = 9999;
    private static final int FIRST_NUMBER = -4371587;
    private static final int LAST_NUMBER = 2932896;
    private static final int MOST_AMOUNT = 200000;
    private static final int MOST_OF_SPAN = 100000;
    private static final int MOST_MONTH_DAYS = 31;
    private static final int MOST_YEAR_DAYS = 366;

    private static final int DAYS = 0;
    private static final int WEEKS = 1;
    private static final int MONTHS = 2;
    private static final int YEARS = 3;
    private static final int TENS = 4;
    private static final int HUNDREDS = 5;
    private static final int THOUSANDS = 6;

    private static final int EPOCH_YEAR = 1970;
    private static final int LEAP_YEARS_FROM_1_TO_EPOCH = 477;

    // A DATE is held in one long: its DAY in the lowest 5 bits, its MONTH in the 4 above them, its YEAR in the rest.
    // So no DATE needs an object, and of two DATES the one ahead is the lesser long.
    private static final int YEAR_SHIFT = 9;
    private static final int MONTH_SHIFT = 5;
    private static final int MONTH_MASK = 15;
    private static final int DAY_MASK = 31;
    private static final long EPOCH = ((long) EPOCH_YEAR << YEAR_SHIFT) + (1 << MONTH_SHIFT) + 1;

    private final long[] dates = new long[PLACES];
    private final int[] spanYears = new int[SPANS];
    private final int[] spanMonths = new int[SPANS];
    private final int[] spanDays = new int[SPANS];
    private int given = 0;
    private int knocks = 0;

    public Datesolo() {
        for (int place = 0; place < dates.length; place++) {
            dates[place] = EPOCH;
        }
    }

    // ---- what a place is given

    public int of(int place, int year, int month, int day) throws IndexOutOfBoundsException, IllegalArgumentException, IllegalStateException {
        requirePlace(place);
        requireYearMonthDay(year, month, day);
        requireDayOfMonth(year, month, day);
        return give(place, dateOf(year, month, day));
    }

    public int ofDay(int place, int number) throws IndexOutOfBoundsException, IllegalArgumentException {
        requirePlace(place);
        requireWithin(number, FIRST_NUMBER, LAST_NUMBER);
        return give(place, dateOfNumber(number));
    }

    public int ofYearDay(int place, int year, int day) throws IndexOutOfBoundsException, IllegalArgumentException, IllegalStateException {
        requirePlace(place);
        requireWithin(year, FIRST_YEAR, LAST_YEAR);
        return giveYearDay(place, year, day);
    }

    public int copy(int place, int other) throws IndexOutOfBoundsException {
        requirePlace(place);
        return give(place, dateAt(other));
    }

    public int epoch(int place) throws IndexOutOfBoundsException {
        int before = toDay(place);
        give(place, EPOCH);
        return before;
    }

    public int swap(int place, int other) throws IndexOutOfBoundsException {
        long first = dateAt(place);
        long second = dateAt(other);
        put(other, first);
        return give(place, second);
    }

    // ---- another year, month or day

    public int withYear(int place, int year) throws IndexOutOfBoundsException, IllegalArgumentException {
        long date = dateAt(place);
        requireWithin(year, FIRST_YEAR, LAST_YEAR);
        return give(place, fittedDate(year, monthIn(date), dayIn(date)));
    }

    public int withMonth(int place, int month) throws IndexOutOfBoundsException, IllegalArgumentException {
        long date = dateAt(place);
        requireWithin(month, 1, 12);
        return give(place, fittedDate(yearIn(date), month, dayIn(date)));
    }

    public int withDay(int place, int day) throws IndexOutOfBoundsException, IllegalArgumentException, IllegalStateException {
        long date = dateAt(place);
        requireWithin(day, 1, MOST_MONTH_DAYS);
        requireDayOfMonth(yearIn(date), monthIn(date), day);
        return give(place, dateOf(yearIn(date), monthIn(date), day));
    }

    public int withDayOfYear(int place, int day) throws IndexOutOfBoundsException, IllegalArgumentException, IllegalStateException {
        return giveYearDay(place, yearIn(dateAt(place)), day);
    }

    public int toFirst(int place) throws IndexOutOfBoundsException {
        long date = dateAt(place);
        return give(place, dateOf(yearIn(date), monthIn(date), 1));
    }

    public int toLast(int place) throws IndexOutOfBoundsException {
        long date = dateAt(place);
        return give(place, fittedDate(yearIn(date), monthIn(date), MOST_MONTH_DAYS));
    }

    // ---- moving

    public int plusDays(int place, int many) throws IndexOutOfBoundsException, IllegalArgumentException, IllegalStateException {
        return move(place, DAYS, many);
    }

    public int plusWeeks(int place, int many) throws IndexOutOfBoundsException, IllegalArgumentException, IllegalStateException {
        return move(place, WEEKS, many);
    }

    public int plusMonths(int place, int many) throws IndexOutOfBoundsException, IllegalArgumentException, IllegalStateException {
        return move(place, MONTHS, many);
    }

    public int plusYears(int place, int many) throws IndexOutOfBoundsException, IllegalArgumentException, IllegalStateException {
        return move(place, YEARS, many);
    }

    // What is taken away may be turned round before it is tested: 0 less a number is an AMOUNT just if the number is
    // one, also for the least int, which stays itself.

    public int minusDays(int place, int many) throws IndexOutOfBoundsException, IllegalArgumentException, IllegalStateException {
        return move(place, DAYS, -many);
    }

    public int minusWeeks(int place, int many) throws IndexOutOfBoundsException, IllegalArgumentException, IllegalStateException {
        return move(place, WEEKS, -many);
    }

    public int minusMonths(int place, int many) throws IndexOutOfBoundsException, IllegalArgumentException, IllegalStateException {
        return move(place, MONTHS, -many);
    }

    public int minusYears(int place, int many) throws IndexOutOfBoundsException, IllegalArgumentException, IllegalStateException {
        return move(place, YEARS, -many);
    }

    // ---- spans

    public int span(int span, int years, int months, int days) throws IndexOutOfBoundsException, IllegalArgumentException {
        requireSpan(span);
        requireWithin(years, -MOST_OF_SPAN, MOST_OF_SPAN);
        requireWithin(months, -MOST_OF_SPAN, MOST_OF_SPAN);
        requireWithin(days, -MOST_OF_SPAN, MOST_OF_SPAN);
        giveSpan(span, years, months, days);
        return monthsOfSpan(span);
    }

    public int until(int span, int from, int to) throws IndexOutOfBoundsException, IllegalStateException {
        requireSpan(span);
        long first = dateAt(from);
        long second = dateAt(to);
        requireNotAhead(second, first);
        int months = monthsUpTo(first, second);
        int days = daysBehindMonths(first, second);
        giveSpan(span, months / 12, months % 12, days);
        return days;
    }

    public int addSpan(int span, int other) throws IndexOutOfBoundsException, IllegalStateException {
        requireSpan(span);
        requireSpan(other);
        int years = spanYears[span] + spanYears[other];
        int months = spanMonths[span] + spanMonths[other];
        int days = spanDays[span] + spanDays[other];
        requireSpanHolds(years);
        requireSpanHolds(months);
        requireSpanHolds(days);
        giveSpan(span, years, months, days);
        return days;
    }

    public int ofSpan(int span, int what) throws IndexOutOfBoundsException, IllegalArgumentException {
        requireSpan(span);
        requireWithin(what, 0, 2);
        switch (what) {
            case 0: return spanYears[span];
            case 1: return spanMonths[span];
            default: return spanDays[span];
        }
    }

    public int plusSpan(int place, int span) throws IndexOutOfBoundsException, IllegalStateException {
        long date = dateAt(place);
        requireSpan(span);
        return give(place, daysLater(monthsLater(date, monthsOfSpan(span)), spanDays[span]));
    }

    public int minusSpan(int place, int span) throws IndexOutOfBoundsException, IllegalStateException {
        long date = dateAt(place);
        requireSpan(span);
        return give(place, daysLater(monthsLater(date, -monthsOfSpan(span)), -spanDays[span]));
    }

    // ---- what is asked of a date

    public int year(int place) throws IndexOutOfBoundsException {
        return (int) yearIn(dateAt(place));
    }

    public int month(int place) throws IndexOutOfBoundsException {
        return monthIn(dateAt(place));
    }

    public int day(int place) throws IndexOutOfBoundsException {
        return dayIn(dateAt(place));
    }

    public int dayOfYear(int place) throws IndexOutOfBoundsException {
        return dayInYear(dateAt(place));
    }

    public int dayOfWeek(int place) throws IndexOutOfBoundsException {
        return dayInWeek(toDay(place));
    }

    public int laterDayOfWeek(int place, int many) throws IndexOutOfBoundsException, IllegalArgumentException {
        requirePlace(place);
        requireAmount(many);
        return dayInWeek(toDay(place) + many);
    }

    public int lengthOfMonth(int place) throws IndexOutOfBoundsException {
        long date = dateAt(place);
        return monthLength(monthIn(date), isLeap(yearIn(date)));
    }

    public int lengthOfYear(int place) throws IndexOutOfBoundsException {
        return yearLength(yearIn(dateAt(place)));
    }

    public boolean isLeapYear(int place) throws IndexOutOfBoundsException {
        return isLeap(yearIn(dateAt(place)));
    }

    public int field(int place, int what) throws IndexOutOfBoundsException, IllegalArgumentException {
        long date = dateAt(place);
        requireWithin(what, 0, 5);
        switch (what) {
            case 0: return placeInRound(dayIn(date));
            case 1: return roundOf(dayIn(date));
            case 2: return placeInRound(dayInYear(date));
            case 3: return roundOf(dayInYear(date));
            case 4: return yearOfEra((int) yearIn(date));
            default: return yearIn(date) >= 1 ? 1 : 0;
        }
    }

    public int toDay(int place) throws IndexOutOfBoundsException {
        return (int) numberOf(dateAt(place));
    }

    public String text(int place) throws IndexOutOfBoundsException {
        long date = dateAt(place);
        int year = (int) yearIn(date);
        if (year < 0) {
            return "?";
        }
        StringBuilder signs = new StringBuilder();
        appendFilled(signs, year, 1000);
        signs.append('-');
        appendFilled(signs, monthIn(date), 10);
        signs.append('-');
        appendFilled(signs, dayIn(date), 10);
        return signs.toString();
    }

    public boolean isDate(int year, int month, int day) throws IllegalArgumentException {
        requireYearMonthDay(year, month, day);
        return day <= monthLength(month, isLeap(year));
    }

    public int wouldBe(int place, int unit, int many) throws IndexOutOfBoundsException, IllegalArgumentException, IllegalStateException {
        long date = dateAt(place);
        requireUnit(unit);
        requireAmount(many);
        long moved = unitsLater(date, unit, many);
        requireDate(moved);
        return (int) numberOf(moved);
    }

    // ---- what is asked of two dates

    public int compare(int place, int other) throws IndexOutOfBoundsException {
        return Long.compare(dateAt(place), dateAt(other));
    }

    public boolean isBefore(int place, int other) throws IndexOutOfBoundsException {
        return dateAt(place) < dateAt(other);
    }

    public boolean isAfter(int place, int other) throws IndexOutOfBoundsException {
        return dateAt(place) > dateAt(other);
    }

    public boolean isSame(int place, int other) throws IndexOutOfBoundsException {
        return dateAt(place) == dateAt(other);
    }

    public int between(int from, int to, int unit) throws IndexOutOfBoundsException, IllegalArgumentException {
        long first = dateAt(from);
        long second = dateAt(to);
        requireUnit(unit);
        return second < first ? -unitsUpTo(second, first, unit) : unitsUpTo(first, second, unit);
    }

    public int apart(int from, int to, int what) throws IndexOutOfBoundsException, IllegalArgumentException, IllegalStateException {
        long first = dateAt(from);
        long second = dateAt(to);
        requireWithin(what, 0, 2);
        requireNotAhead(second, first);
        switch (what) {
            case 0: return monthsUpTo(first, second) / 12;
            case 1: return monthsUpTo(first, second) % 12;
            default: return daysBehindMonths(first, second);
        }
    }

    public int daysToYearEnd(int place) throws IndexOutOfBoundsException {
        long date = dateAt(place);
        return yearLength(yearIn(date)) - dayInYear(date);
    }

    public int sameDay(int place, int year) throws IndexOutOfBoundsException, IllegalArgumentException {
        long date = dateAt(place);
        requireWithin(year, FIRST_YEAR, LAST_YEAR);
        return (int) numberOf(fittedDate(year, monthIn(date), dayIn(date)));
    }

    // ---- all

    public int reset() {
        int others = 0;
        for (int place = 0; place < dates.length; place++) {
            if (dates[place] != EPOCH) {
                others++;
                dates[place] = EPOCH;
            }
        }
        for (int span = 0; span < SPANS; span++) {
            putSpan(span, 0, 0, 0);
        }
        return others;
    }

    public int house(int what) throws IllegalArgumentException {
        requireWithin(what, 0, 2);
        switch (what) {
            case 0: return given;
            case 1: return knocks;
            default: return sumOfNumbers();
        }
    }

    public int knock() {
        knocks++;
        return knocks;
    }

    public boolean isSound() {
        for (int place = 0; place < PLACES; place++) {
            if (!isSoundAlone(dateAt(place))) {
                return false;
            }
            for (int other = 0; other < PLACES; other++) {
                if (!areSoundTogether(dateAt(place), dateAt(other))) {
                    return false;
                }
            }
        }
        return true;
    }

    public long digest() {
        long sum = 7787;
        for (int place = 0; place < PLACES; place++) {
            sum = digestPlace(sum, place);
        }
        for (int span = 0; span < SPANS; span++) {
            for (int what = 0; what <= 2; what++) {
                sum = digestValue(sum, ofSpan(span, what));
            }
        }
        for (int place = 0; place < PLACES - 1; place++) {
            sum = digestPair(sum, place, place + 1);
        }
        for (int what = 0; what <= 2; what++) {
            sum = digestValue(sum, house(what));
        }
        return digestValue(sum, isSound() ? 1 : 0);
    }

    // ---- what is refused

    private static void requirePlace(int place) {
        if (place < 0 || place >= PLACES) {
            throw new IndexOutOfBoundsException("there is no such place");
        }
    }

    private static void requireSpan(int span) {
        if (span < 0 || span >= SPANS) {
            throw new IndexOutOfBoundsException("there is no such span");
        }
    }

    private static void requireWithin(int number, int least, int most) {
        if (number < least || number > most) {
            throw new IllegalArgumentException("the number is too small or too large");
        }
    }

    private static void requireAmount(int many) {
        requireWithin(many, -MOST_AMOUNT, MOST_AMOUNT);
    }

    private static void requireUnit(int unit) {
        requireWithin(unit, DAYS, THOUSANDS);
    }

    private static void requireYearMonthDay(int year, int month, int day) {
        requireWithin(year, FIRST_YEAR, LAST_YEAR);
        requireWithin(month, 1, 12);
        requireWithin(day, 1, MOST_MONTH_DAYS);
    }

    private static void requireDayOfMonth(long year, int month, int day) {
        if (day > monthLength(month, isLeap(year))) {
            throw new IllegalStateException("the month has not so many days");
        }
    }

    private static void requireDate(long date) {
        if (yearIn(date) < FIRST_YEAR || yearIn(date) > LAST_YEAR) {
            throw new IllegalStateException("what comes is no date");
        }
    }

    private static void requireNotAhead(long second, long first) {
        if (second < first) {
            throw new IllegalStateException("the second date is ahead of the first one");
        }
    }

    private static void requireSpanHolds(int number) {
        if (number < -MOST_OF_SPAN || number > MOST_OF_SPAN) {
            throw new IllegalStateException("the number is too small or too large for a span");
        }
    }

    // ---- places and spans

    private long dateAt(int place) {
        requirePlace(place);
        return dates[place];
    }

    private void put(int place, long date) {
        requirePlace(place);
        dates[place] = date;
    }

    private int give(int place, long date) {
        requireDate(date);
        put(place, date);
        given++;
        return (int) numberOf(date);
    }

    private int giveYearDay(int place, long year, int day) {
        requireWithin(day, 1, MOST_YEAR_DAYS);
        if (day > yearLength(year)) {
            throw new IllegalStateException("the year has not so many days");
        }
        return give(place, dateOfYearDay(year, day));
    }

    private int move(int place, int unit, int many) {
        long date = dateAt(place);
        requireAmount(many);
        return give(place, unitsLater(date, unit, many));
    }

    private void putSpan(int span, int years, int months, int days) {
        requireSpan(span);
        spanYears[span] = years;
        spanMonths[span] = months;
        spanDays[span] = days;
    }

    private void giveSpan(int span, int years, int months, int days) {
        putSpan(span, years, months, days);
        given++;
    }

    private int monthsOfSpan(int span) {
        requireSpan(span);
        return 12 * spanYears[span] + spanMonths[span];
    }

    private int sumOfNumbers() {
        int sum = 0;
        for (int place = 0; place < PLACES; place++) {
            sum += toDay(place);
        }
        return sum;
    }

    // ---- dates: their YEAR may be any, since on the way of a SPAN it may be below -9999 or above 9999

    private static long dateOf(long year, int month, int day) {
        return (year << YEAR_SHIFT) + (month << MONTH_SHIFT) + day;
    }

    private static long yearIn(long date) {
        return date >> YEAR_SHIFT;
    }

    private static int monthIn(long date) {
        return (int) (date >> MONTH_SHIFT) & MONTH_MASK;
    }

    private static int dayIn(long date) {
        return (int) date & DAY_MASK;
    }

    /** The DATE of a DAY, or of the last one there is, if the MONTH has not so many. */
    private static long fittedDate(long year, int month, int day) {
        return dateOf(year, month, Math.min(day, monthLength(month, isLeap(year))));
    }

    private static long dateOfYearDay(long year, int dayOfTheYear) {
        boolean leap = isLeap(year);
        int month = 1;
        int day = dayOfTheYear;
        while (month < 12 && day > monthLength(month, leap)) {
            day -= monthLength(month, leap);
            month++;
        }
        return dateOf(year, month, day);
    }

    private static long dateOfNumber(long number) {
        long year = yearOfNumber(number);
        return dateOfYearDay(year, (int) (number - firstNumberOf(year)) + 1);
    }

    private static long numberOf(long date) {
        return firstNumberOf(yearIn(date)) + dayInYear(date) - 1;
    }

    /** The DAY NUMBER of the first day of a YEAR. */
    private static long firstNumberOf(long year) {
        long before = year - 1;
        long leapYears = Math.floorDiv(before, 4L) - Math.floorDiv(before, 100L) + Math.floorDiv(before, 400L);
        return 365 * (year - EPOCH_YEAR) + leapYears - LEAP_YEARS_FROM_1_TO_EPOCH;
    }

    private static long yearOfNumber(long number) {
        // 400 YEARS have 146097 days; what the leap years shift inside them puts the guess wrong by one YEAR at most.
        long guess = EPOCH_YEAR + Math.floorDiv(number * 400, 146097L);
        if (number < firstNumberOf(guess)) {
            return guess - 1;
        }
        return number < firstNumberOf(guess + 1) ? guess : guess + 1;
    }

    private static boolean isLeap(long year) {
        return year % 4 == 0 && (year % 100 != 0 || year % 400 == 0);
    }

    private static int yearLength(long year) {
        return isLeap(year) ? 366 : 365;
    }

    private static int monthLength(int month, boolean leap) {
        switch (month) {
            case 2: return leap ? 29 : 28;
            case 4: case 6: case 9: case 11: return 30;
            default: return 31;
        }
    }

    private static int dayInYear(long date) {
        boolean leap = isLeap(yearIn(date));
        int days = dayIn(date);
        for (int month = 1; month < monthIn(date); month++) {
            days += monthLength(month, leap);
        }
        return days;
    }

    private static int dayInWeek(int number) {
        return Math.floorMod(number + 3, 7) + 1;
    }

    private static int placeInRound(int day) {
        return (day - 1) % 7 + 1;
    }

    private static int roundOf(int day) {
        return (day - 1) / 7 + 1;
    }

    private static int yearOfEra(int year) {
        return year >= 1 ? year : 1 - year;
    }

    /** Appends a number, with a 0 ahead for each digit that it lacks to be as long as the power of ten. */
    private static void appendFilled(StringBuilder signs, int number, int powerOfTen) {
        for (int power = powerOfTen; power > 1 && number < power; power /= 10) {
            signs.append('0');
        }
        signs.append(number);
    }

    // ---- moving and telling apart

    private static long daysLater(long date, long many) {
        return dateOfNumber(numberOf(date) + many);
    }

    private static long monthsLater(long date, long many) {
        long months = 12 * yearIn(date) + monthIn(date) - 1 + many;
        return fittedDate(Math.floorDiv(months, 12L), (int) Math.floorMod(months, 12L) + 1, dayIn(date));
    }

    private static long unitsLater(long date, int unit, int many) {
        switch (unit) {
            case DAYS: return daysLater(date, many);
            case WEEKS: return daysLater(date, 7L * many);
            case MONTHS: return monthsLater(date, many);
            case YEARS: return monthsLater(date, 12L * many);
            case TENS: return monthsLater(date, 120L * many);
            case HUNDREDS: return monthsLater(date, 1200L * many);
            default: return monthsLater(date, 12000L * many);
        }
    }

    /** How many whole UNITS there are from a DATE to one that is not ahead of it. */
    private static int unitsUpTo(long first, long second, int unit) {
        switch (unit) {
            case DAYS: return (int) (numberOf(second) - numberOf(first));
            case WEEKS: return (int) (numberOf(second) - numberOf(first)) / 7;
            case MONTHS: return monthsUpTo(first, second);
            case YEARS: return monthsUpTo(first, second) / 12;
            case TENS: return monthsUpTo(first, second) / 120;
            case HUNDREDS: return monthsUpTo(first, second) / 1200;
            default: return monthsUpTo(first, second) / 12000;
        }
    }

    private static int monthsUpTo(long first, long second) {
        int months = 12 * (int) (yearIn(second) - yearIn(first)) + monthIn(second) - monthIn(first);
        return dayIn(second) < dayIn(first) ? months - 1 : months;
    }

    /** The DAYS of the SPAN from a DATE until one that is not ahead of it. */
    private static int daysBehindMonths(long first, long second) {
        long monthsOn = monthsLater(first, monthsUpTo(first, second));
        return (int) (numberOf(second) - numberOf(monthsOn));
    }

    // ---- soundness and digest

    private static boolean isSoundAlone(long date) {
        long next = daysLater(date, 1);
        return fittedDate(yearIn(date), monthIn(date), dayIn(date)) == date
            && dateOfNumber(numberOf(date)) == date
            && dateOfYearDay(yearIn(date), dayInYear(date)) == date
            && date < next
            && daysLater(next, -1) == date;
    }

    private static boolean areSoundTogether(long first, long second) {
        if ((first < second) != (numberOf(first) < numberOf(second))) {
            return false;
        }
        if (second < first) {
            return true;
        }
        long months = monthsUpTo(first, second);
        return daysLater(monthsLater(first, months), daysBehindMonths(first, second)) == second;
    }

    private static long digestValue(long sum, long value) {
        return sum * 31 + value;
    }

    private long digestPlace(long before, int place) {
        long sum = before;
        sum = digestValue(sum, toDay(place));
        sum = digestValue(sum, year(place));
        sum = digestValue(sum, month(place));
        sum = digestValue(sum, day(place));
        sum = digestValue(sum, dayOfYear(place));
        sum = digestValue(sum, dayOfWeek(place));
        sum = digestValue(sum, lengthOfMonth(place));
        sum = digestValue(sum, lengthOfYear(place));
        sum = digestValue(sum, isLeapYear(place) ? 1 : 0);
        for (int what = 0; what <= 5; what++) {
            sum = digestValue(sum, field(place, what));
        }
        return digestValue(sum, text(place).length());
    }

    private long digestPair(long before, int place, int other) {
        long sum = digestValue(before, compare(place, other));
        for (int unit = DAYS; unit <= THOUSANDS; unit++) {
            sum = digestValue(sum, between(place, other, unit));
        }
        return sum;
    }
}
