import java.time.LocalDate;

/** Promise 17: date, against the calendar of the Java library. */
public final class P17DateTest {
    public static void main(String[] args) {
        BillForge x = new BillForge();
        LocalDate first = LocalDate.of(2000, 1, 1);
        for (int day = 0; day <= 100000; day++) {
            LocalDate date = first.plusDays(day);
            Checks.due("year of " + day, x.date(day, 0), date.getYear());
            Checks.due("month of " + day, x.date(day, 1), date.getMonthValue());
            Checks.due("day in the month of " + day, x.date(day, 2), date.getDayOfMonth());
            Checks.due("PERIOD of " + day, x.date(day, 3), (date.getYear() - 2000) * 12 + date.getMonthValue() - 1);
        }
        Checks.illegalArgument("DAY -1", () -> x.date(-1, 0));
        Checks.illegalArgument("DAY 100001", () -> x.date(100001, 0));
        Checks.illegalArgument("the least DAY", () -> x.date(Integer.MIN_VALUE, 0));
        Checks.illegalArgument("the greatest DAY", () -> x.date(Integer.MAX_VALUE, 3));
        Checks.illegalArgument("what -1", () -> x.date(0, -1));
        Checks.illegalArgument("what 4", () -> x.date(0, 4));
        Checks.finish();
    }
}
