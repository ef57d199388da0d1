/** Promise 19: order and limits. */
public final class P19LimitsTest {
    public static void main(String[] args) {
        daysAfterTodayAreNotLive();
        theDayIsTestedBeforeTheKey();
        Checks.finish();
    }

    private static void daysAfterTodayAreNotLive() {
        BillForge x = Checks.withTariff("fee 3100;min 310;rest 0");
        x.subscribe(0, 0);
        for (int day = 0; day < 31; day++) {
            Checks.due("DAYS up to " + day, x.charge(0, 0), 110L * (day + 1));
            Checks.due("the next PERIOD on " + day, x.charge(0, 1), 0);
            x.tick(1);
        }
        Checks.due("no more DAYS", x.charge(0, 0), 3410);
        Checks.due("the next PERIOD", x.charge(0, 1), 3100 / 29 + 310 / 29);
    }

    private static void theDayIsTestedBeforeTheKey() {
        BillForge x = new BillForge();
        x.event(1, 0, 0, 1);
        Checks.throwing("above TODAY", IndexOutOfBoundsException.class, () -> x.event(1, 0, 1, 1));
        Checks.throwing("below 0", IndexOutOfBoundsException.class, () -> x.event(1, 0, -1, 1));
        Checks.tickTo(x, 46);
        Checks.throwing("46 below TODAY", IndexOutOfBoundsException.class, () -> x.event(1, 0, 0, 1));
        Checks.due("the KEY then", x.event(1, 0, 1, 1), 0);
    }
}
