/** Section 1: every DATE there is, walked day by day by the rules of the calendar alone. */
public final class EveryDayTest {
    private static final int CALLS_A_DAY = 9;

    private static int wrong = 0;
    private static int year = -9999;
    private static int month = 1;
    private static int day = 1;
    private static int dayOfYear = 1;
    private static int dayOfWeek = 1;

    public static void main(String[] args) {
        Datesolo dates = new Datesolo();
        int calls = 0;
        for (int number = -4371587; number <= 2932896; number++) {
            if (calls + CALLS_A_DAY > 512) {
                dates = new Datesolo();
                calls = 0;
            }
            check(dates, number);
            calls += CALLS_A_DAY;
            next();
        }
        if (year != 10000 || month != 1 || day != 1) {
            wrong++;
            System.out.println("the walk ended ahead of " + told());
        }
        System.out.println("every day, " + wrong + " wrong");
        if (wrong != 0) {
            System.exit(1);
        }
    }

    private static void check(Datesolo dates, int number) {
        boolean right = dates.ofDay(0, number) == number
            && dates.year(0) == year && dates.month(0) == month && dates.day(0) == day
            && dates.dayOfYear(0) == dayOfYear && dates.dayOfWeek(0) == dayOfWeek
            && dates.of(1, year, month, day) == number
            && dates.ofYearDay(2, year, dayOfYear) == number
            && dates.isSame(1, 2);
        if (!right) {
            wrong++;
            if (wrong <= 10) {
                System.out.println("the day " + number + " is told wrong, due is " + told());
            }
        }
    }

    private static String told() {
        return year + ", " + month + ", " + day;
    }

    private static void next() {
        dayOfWeek = dayOfWeek == 7 ? 1 : dayOfWeek + 1;
        dayOfYear++;
        day++;
        if (day > lengthOfMonth()) {
            day = 1;
            month++;
        }
        if (month > 12) {
            month = 1;
            dayOfYear = 1;
            year++;
        }
    }

    private static int lengthOfMonth() {
        if (month == 2) {
            boolean leap = year % 400 == 0 || year % 4 == 0 && year % 100 != 0;
            return leap ? 29 : 28;
        }
        return month == 4 || month == 6 || month == 9 || month == 11 ? 30 : 31;
    }
}
