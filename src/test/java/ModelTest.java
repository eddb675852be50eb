import java.util.Arrays;

/** Long runs of calls of all kinds, right and wrong ones, on Datesolo and on the model: each answer is the same. */
public final class ModelTest {
    private static final int RUNS = 3000;
    private static final int CALLS_A_RUN = 480;
    private static final int CALLS_A_DIGEST = 16;

    // Behind each name a letter for each argument, as number() reads them.
    private static final String[] METHODS = {
        "of pymd", "ofDay pn", "ofYearDay pyD", "copy pp", "epoch p", "swap pp",
        "withYear py", "withMonth pm", "withDay pd", "withDayOfYear pD", "toFirst p", "toLast p",
        "plusDays pa", "plusWeeks pa", "plusMonths pa", "plusYears pa",
        "minusDays pa", "minusWeeks pa", "minusMonths pa", "minusYears pa",
        "span szzz", "until spp", "addSpan ss", "ofSpan s3", "plusSpan ps", "minusSpan ps",
        "year p", "month p", "day p", "dayOfYear p", "dayOfWeek p", "laterDayOfWeek pa",
        "lengthOfMonth p", "lengthOfYear p", "isLeapYear p", "field p6", "toDay p", "text p", "isDate ymd", "wouldBe p7a",
        "compare pp", "isBefore pp", "isAfter pp", "isSame pp", "between pp7", "apart pp3", "daysToYearEnd p", "sameDay py",
        "reset ", "house 3", "knock ", "isSound ", "digest "};

    private static long seed = 20261118;
    private static int wrong = 0;
    private static int throwing = 0;

    public static void main(String[] args) {
        Calls program = new Calls(Datesolo.class);
        Calls model = new Calls(Model.class);
        for (int run = 0; run < RUNS && wrong < 20; run++) {
            run(run, program, model);
        }
        System.out.println(RUNS + " runs, " + throwing + " calls that throw, " + wrong + " wrong");
        if (wrong != 0) {
            System.exit(1);
        }
    }

    private static void run(int run, Calls program, Calls model) {
        Datesolo dates = new Datesolo();
        Model due = new Model();
        for (int call = 0; call < CALLS_A_RUN; call++) {
            String[] method = METHODS[below(METHODS.length)].split(" ", 2);
            // A reset empties all, so it comes seldom.
            if (method[0].equals("reset") && below(8) != 0) {
                continue;
            }
            Object[] numbers = new Object[method[1].length()];
            for (int i = 0; i < numbers.length; i++) {
                numbers[i] = number(method[1].charAt(i));
            }
            compare(run, method[0] + Arrays.toString(numbers),
                program.answer(dates, method[0], numbers), model.answer(due, method[0], numbers));
            if (call % CALLS_A_DIGEST == 0) {
                compare(run, "digest behind that", String.valueOf(dates.digest()), String.valueOf(due.digest()));
            }
        }
    }

    private static void compare(int run, String call, String got, String want) {
        if (want.startsWith("throws.")) {
            throwing++;
        }
        if (!got.equals(want)) {
            wrong++;
            System.out.println("run " + run + ": " + call + " answered " + got + ", due is " + want);
        }
    }

    private static int number(char kind) {
        if (below(60) == 0) {
            return new int[] {Integer.MIN_VALUE, Integer.MAX_VALUE, Integer.MIN_VALUE + 1, -1, 0}[below(5)];
        }
        switch (kind) {
            case 'p': return within(0, 5, 40);
            case 's': return within(0, 1, 30);
            case 'y': return below(3) == 0 ? within(-9999, 9999, 8) : aroundAny(-9999, -400, -100, -4, -1, 0, 1, 1900, 1970, 2000, 2024, 9996, 9999);
            case 'm': return within(1, 12, 20);
            case 'd': return below(2) == 0 ? within(1, 31, 10) : 27 + below(5);
            case 'D': return below(2) == 0 ? within(1, 366, 10) : aroundAny(1, 60, 365, 366);
            case 'n': return below(2) == 0 ? within(-4371587, 2932896, 8) : aroundAny(-4371587, -719528, 0, 11016, 2932896);
            case 'a': return amount();
            case 'z': return spanNumber();
            default: return within(0, kind - '1', 20);
        }
    }

    private static int amount() {
        switch (below(4)) {
            case 0: return within(-200000, 200000, 6);
            case 1: return below(81) - 40;
            case 2: return below(8001) - 4000;
            default: return aroundAny(-12, 0, 7, 12, 365, 400, 1200);
        }
    }

    private static int spanNumber() {
        switch (below(4)) {
            case 0: return within(-100000, 100000, 6);
            case 1: return below(61) - 30;
            case 2: return below(2001) - 1000;
            default: return aroundAny(-12, 0, 12, 8000, -8000, 96000, -96000);
        }
    }

    /** A number of a range, and now and then the least, the greatest, or the one beside it. */
    private static int within(int least, int most, int edges) {
        if (below(edges) == 0) {
            return aroundAny(least, most);
        }
        return least + below(most - least + 1);
    }

    private static int aroundAny(int... numbers) {
        return numbers[below(numbers.length)] + below(3) - 1;
    }

    private static int below(int bound) {
        seed = seed * 6364136223846793005L + 1442695040888963407L;
        return (int) ((seed >>> 33) % bound);
    }
}
