import java.time.LocalDate;

/** Promise 17: date, and of the terms how long months are. */
public final class P17DateTest {
    private static final LocalDate FIRST = LocalDate.of(2000, 1, 1);
    private static final int DAYS_OF_AN_OBJECT = 128;

    public static void main(String[] args) {
        theFirstDay();
        februaries();
        endsOfMonths();
        theLastDay();
        allDays();
        anyToday();
        wrongDays();
        wrongWhats();
        Checks.finish();
    }

    private static void dateIs(int day, int year, int month, int dayInMonth) {
        BillForge x = new BillForge();
        Checks.due("year of " + day, x.date(day, 0), year);
        Checks.due("month of " + day, x.date(day, 1), month);
        Checks.due("day in the month of " + day, x.date(day, 2), dayInMonth);
        Checks.due("PERIOD of " + day, x.date(day, 3), (year - 2000) * 12 + month - 1);
    }

    private static int dayOf(int year, int month, int dayInMonth) {
        return (int) (LocalDate.of(year, month, dayInMonth).toEpochDay() - FIRST.toEpochDay());
    }

    private static void theFirstDay() {
        Checks.sentence("DAYS are numbered, 0 is the first of January 2000 [...] PERIODS are months, 0 is January 2000.");
        dateIs(0, 2000, 1, 1);
        dateIs(1, 2000, 1, 2);
        dateIs(30, 2000, 1, 31);
        dateIs(31, 2000, 2, 1);
        dateIs(365, 2000, 12, 31);
        dateIs(366, 2001, 1, 1);
    }

    private static void februaries() {
        Checks.sentence("(February 29 if the year is divisible by 4, but not by 100, or by 400)");
        dateIs(58, 2000, 2, 28);
        dateIs(59, 2000, 2, 29);
        dateIs(60, 2000, 3, 1);
        int[] withTwentyNine = {2000, 2004, 2008, 2096, 2104, 2196, 2204, 2272};
        for (int year : withTwentyNine) {
            dateIs(dayOf(year, 2, 28) + 1, year, 2, 29);
            dateIs(dayOf(year, 2, 28) + 2, year, 3, 1);
        }
        int[] withTwentyEight = {2001, 2002, 2003, 2099, 2100, 2101, 2200, 2271, 2273};
        for (int year : withTwentyEight) {
            dateIs(dayOf(year, 2, 28), year, 2, 28);
            dateIs(dayOf(year, 2, 28) + 1, year, 3, 1);
        }
    }

    private static void endsOfMonths() {
        Checks.sentence("months have as many days as they have");
        int[] lengths = {31, 28, 31, 30, 31, 30, 31, 31, 30, 31, 30, 31};
        int first = 366;
        for (int month = 1; month <= 12; month++) {
            dateIs(first, 2001, month, 1);
            first += lengths[month - 1];
            dateIs(first - 1, 2001, month, lengths[month - 1]);
        }
        dateIs(first, 2002, 1, 1);
    }

    private static void theLastDay() {
        Checks.sentence("Of a DAY (0 to 100000)");
        dateIs(99999, 2273, 10, 15);
        dateIs(100000, 2273, 10, 16);
    }

    /** Against the calendar of the Java library. */
    private static void allDays() {
        Checks.sentence("what 0: the year, 1: the month (1 to 12), 2: the day in it (1 the first), 3: the PERIOD.");
        BillForge x = new BillForge();
        for (int day = 0; day <= 100000; day++) {
            if (day % DAYS_OF_AN_OBJECT == 0) {
                x = new BillForge();
            }
            LocalDate date = FIRST.plusDays(day);
            Checks.due("year of " + day, x.date(day, 0), date.getYear());
            Checks.due("month of " + day, x.date(day, 1), date.getMonthValue());
            Checks.due("day in the month of " + day, x.date(day, 2), date.getDayOfMonth());
            Checks.due("PERIOD of " + day, x.date(day, 3), (date.getYear() - 2000) * 12 + date.getMonthValue() - 1);
        }
    }

    private static void anyToday() {
        Checks.sentence("Of a DAY (0 to 100000)");
        BillForge x = Fixtures.full();
        Checks.due("before TODAY", x.date(59, 2), 29);
        Checks.due("above TODAY", x.date(401, 2), 5);
    }

    private static void wrongDays() {
        Checks.sentence("IllegalArgumentException if a number is not as said.");
        int[] wrong = {-1, 100001, Integer.MIN_VALUE, Integer.MAX_VALUE};
        for (int day : wrong) {
            for (int what = 0; what <= 3; what++) {
                int of = what;
                Checks.refusedArgument("date(" + day + ", " + what + ")", BillForge::new, x -> x.date(day, of));
            }
            Checks.refusedArgument("date(" + day + ", 4)", Fixtures::busy, x -> x.date(day, 4));
        }
    }

    private static void wrongWhats() {
        Checks.sentence("IllegalArgumentException if a number is not as said.");
        int[] wrong = {-1, 4, 5, Integer.MIN_VALUE, Integer.MAX_VALUE};
        for (int what : wrong) {
            Checks.refusedArgument("date(0, " + what + ")", Fixtures::busy, x -> x.date(0, what));
            Checks.refusedArgument("date(100000, " + what + ")", BillForge::new, x -> x.date(100000, what));
        }
    }
}
