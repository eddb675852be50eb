import java.util.Map;

/**
 * Promise 53: isSound() looks at each thing that it names. No call makes one of them false, so a fault is put into the
 * text of the class: isSound() has to be false by it, and true without it. Where that is possible, the fault is such a
 * one that no other thing than the one that is tested becomes false. The faults lean on how the class is written: if a
 * test says that a text is not there, its fault has to be put where the class does the same thing now.
 */
public final class SoundTest {
    private static final String TO_FIT = "Math.min(day, monthLength(month, isLeap(year)))";
    private static final String TO_ADD_DAYS = "dateOfNumber(numberOf(date) + many)";
    private static final String TO_TELL_SPAN_DAYS = "(int) (numberOf(second) - numberOf(monthsOn))";

    public static void main(String[] args) throws Exception {
        toldByYearMonthAndDay();
        toldByDayNumber();
        toldByDayOfTheYear();
        aheadOfTheDayBehind();
        aheadAndNotTheSame();
        aheadBehindTheLastDate();
        sameWithTheDayTakenAway();
        aheadJustIfTheNumberIsLess();
        spanLeadsThere();
        spanLeadsToTheSameDate();
        spanUntilADateAheadIsNone();
        Run.end();
    }

    private static void toldByYearMonthAndDay() throws Exception {
        Class<?> broken = broken(TO_FIT, "Math.min(day, 28)");
        for (int place = 0; place <= 5; place++) {
            sound(broken, false, "of(" + place + ", 2024, 2, 29)");
            sound(broken, true, "of(" + place + ", 2024, 2, 28)");
        }
    }

    private static void toldByDayNumber() throws Exception {
        Class<?> broken = broken("year = yearOfNumber(number)", "year = yearOfNumber(number == 19782 ? 19 : number)");
        for (int place = 0; place <= 5; place++) {
            sound(broken, false, "of(" + place + ", 2024, 2, 29)");
            sound(broken, true, "of(" + place + ", 2024, 2, 27)");
        }
    }

    /** The DAY OF THE YEAR is 1 too many, but the DAY NUMBER, which is made of it, is as it was. */
    private static void toldByDayOfTheYear() throws Exception {
        Class<?> broken = broken(
            "int days = dayIn(date);", "int days = dayIn(date) + (yearIn(date) == 2024 ? 1 : 0);",
            "dayInYear(date) - 1", "dayInYear(date) - (yearIn(date) == 2024 ? 2 : 1)");
        for (int place = 0; place <= 5; place++) {
            sound(broken, false, "of(" + place + ", 2024, 2, 29)");
            sound(broken, true, "of(" + place + ", 2023, 2, 28)");
        }
    }

    private static void aheadOfTheDayBehind() throws Exception {
        Class<?> broken = broken(TO_ADD_DAYS, "dateOfNumber(numberOf(date) + (yearIn(date) == 2024 ? -many : many))");
        sound(broken, true);
        inAllPlaces(broken, false, 19782);
        inAllPlaces(broken, true, 19416);
    }

    private static void aheadAndNotTheSame() throws Exception {
        Class<?> broken = broken(TO_ADD_DAYS, "dateOfNumber(numberOf(date) + (yearIn(date) == 2024 ? 0 : many))");
        sound(broken, true);
        for (int place = 0; place <= 5; place++) {
            sound(broken, false, "of(" + place + ", 2024, 2, 29)");
        }
        inAllPlaces(broken, false, 19782);
        inAllPlaces(broken, true, 19416);
    }

    private static void aheadBehindTheLastDate() throws Exception {
        Class<?> broken = broken(TO_ADD_DAYS, "dateOfNumber(Math.min(numberOf(date) + many, LAST_NUMBER))");
        for (int place = 0; place <= 5; place++) {
            sound(broken, false, "ofDay(" + place + ", 2932896)");
            sound(broken, true, "ofDay(" + place + ", 2932895)");
        }
    }

    private static void sameWithTheDayTakenAway() throws Exception {
        Class<?> broken = broken(TO_ADD_DAYS, "dateOfNumber(numberOf(date) + Math.max(many, 0))");
        sound(broken, false);
        inAllPlaces(broken, false, 19782);
    }

    private static void inAllPlaces(Class<?> broken, boolean want, int number) {
        String[] calls = new String[6];
        for (int place = 0; place <= 5; place++) {
            calls[place] = "ofDay(" + place + ", " + number + ")";
        }
        sound(broken, want, calls);
    }

    /** The DAY is held above the MONTH, so that of two DATES the one ahead is no more the lesser one. */
    private static void aheadJustIfTheNumberIsLess() throws Exception {
        Class<?> broken = broken(
            "int MONTH_SHIFT = 5", "int MONTH_SHIFT = 0",
            "+ (1 << MONTH_SHIFT) + 1", "+ (1 << MONTH_SHIFT) + (1 << 4)",
            "+ (month << MONTH_SHIFT) + day", "+ (month << MONTH_SHIFT) + (day << 4)",
            "(int) date & DAY_MASK", "(int) (date >> 4) & DAY_MASK");
        sound(broken, true);
        for (int place = 0; place <= 5; place++) {
            for (int other = 0; other <= 5; other++) {
                String first = "of(" + place + ", 2023, 1, 15)";
                sound(broken, place == other, first, "of(" + other + ", 2023, 2, 10)");
                sound(broken, true, first, "of(" + other + ", 2023, 2, 20)");
            }
        }
    }

    private static void spanLeadsThere() throws Exception {
        Class<?> broken = broken(TO_TELL_SPAN_DAYS,
            TO_TELL_SPAN_DAYS + " + (yearIn(first) == 2023 && yearIn(second) == 2024 ? 1 : 0)");
        sound(broken, true);
        for (int place = 0; place <= 5; place++) {
            for (int other = 0; other <= 5; other++) {
                String first = "of(" + place + ", 2023, 1, 31)";
                sound(broken, place == other, first, "of(" + other + ", 2024, 2, 29)");
                sound(broken, true, first, "of(" + other + ", 2022, 2, 28)");
            }
        }
    }

    /** A DATE is not ahead of itself, nor of the same one in another PLACE. */
    private static void spanLeadsToTheSameDate() throws Exception {
        Class<?> broken = broken(TO_TELL_SPAN_DAYS, TO_TELL_SPAN_DAYS + " + (first == second && yearIn(first) == 2024 ? 1 : 0)");
        sound(broken, true);
        for (int place = 0; place <= 5; place++) {
            sound(broken, false, "of(" + place + ", 2024, 2, 29)");
            sound(broken, true, "of(" + place + ", 2023, 2, 28)");
        }
    }

    private static void spanUntilADateAheadIsNone() throws Exception {
        Class<?> broken = broken(TO_TELL_SPAN_DAYS, TO_TELL_SPAN_DAYS + " + (second < first ? 1 : 0)");
        sound(broken, true);
        for (int place = 0; place <= 5; place++) {
            sound(broken, true, "of(" + place + ", 2024, 2, 29)");
            sound(broken, true, "of(" + place + ", -1, 12, 31)");
        }
    }

    /** What isSound() answers behind these calls on the broken class; on the class itself true is due. */
    private static void sound(Class<?> broken, boolean want, String... calls) {
        String name = "isSound behind " + String.join(", ", calls);
        Run.same(name + " with a fault", answer(broken, calls), want);
        Run.same(name, answer(Datesolo.class, calls), true);
    }

    private static String answer(Class<?> type, String... calls) {
        try {
            Object object = type.getConstructor().newInstance();
            Calls made = new Calls(type);
            for (String call : calls) {
                made.answer(object, call);
            }
            return made.answer(object, "isSound()");
        } catch (ReflectiveOperationException none) {
            return "no object: " + none;
        }
    }

    /** The class with each first text, which has to be in it once, changed into the second one. */
    private static Class<?> broken(String... texts) throws Exception {
        String program = Compiled.program();
        for (int i = 0; i < texts.length; i += 2) {
            int found = program.split(java.util.regex.Pattern.quote(texts[i]), -1).length - 1;
            Run.same("how often the class has the text " + texts[i], found, 1);
            program = program.replace(texts[i], texts[i + 1]);
        }
        return new Compiled(Map.of("Datesolo", program)).loadClass("Datesolo");
    }
}
