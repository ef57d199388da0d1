/** Promise 19: order and limits. The order of the tests of event stands in P08EventTest, too. */
public final class P19LimitsTest {
    public static void main(String[] args) {
        daysAfterTodayAreNotLive();
        daysAfterTodayWithEventsOfToday();
        theDayIsTestedBeforeTheKey();
        fiveHundredAndTwelveCalls();
        Checks.finish();
    }

    private static void daysAfterTodayAreNotLive() {
        Checks.sentence("DAYS after TODAY are LIVE for no TARIFF.");
        BillForge x = Checks.withTariff("fee 3100;min 310;rest 0");
        x.subscribe(0, 0);
        for (int day = 0; day < 31; day++) {
            Checks.due("DAYS up to " + day, x.charge(0, 0), 110L * (day + 1));
            Checks.due("the next PERIOD on " + day, x.charge(0, 1), 0);
            Checks.due("the last PERIOD on " + day, x.charge(0, 13), 0);
            x.tick(1);
        }
        Checks.due("no more DAYS", x.charge(0, 0), 3410);
        Checks.due("the next PERIOD", x.charge(0, 1), 3100 / 29 + 310 / 29);
        Checks.tickTo(x, 400);
        Checks.due("DAYS after 400", x.charge(0, 13), 3100 * 4 / 28 + 310 * 4 / 28);
    }

    private static void daysAfterTodayWithEventsOfToday() {
        Checks.sentence("DAYS after TODAY are LIVE for no TARIFF.");
        BillForge x = Checks.withTariff("free 31;rest 1");
        x.subscribe(0, 0);
        x.event(1, 0, 0, 3);
        Checks.due("FREE of one DAY", x.charge(0, 0), 2);
        x.tick(1);
        Checks.due("FREE of two DAYS", x.charge(0, 0), 1);
        x.tick(1);
        Checks.due("FREE of three DAYS", x.charge(0, 0), 0);
    }

    private static void theDayIsTestedBeforeTheKey() {
        Checks.sentence("event: the DAY is tested before the KEY.");
        BillForge x = new BillForge();
        x.event(1, 0, 0, 1);
        Checks.throwing("above TODAY", IndexOutOfBoundsException.class, () -> x.event(1, 0, 1, 1));
        Checks.throwing("below 0", IndexOutOfBoundsException.class, () -> x.event(1, 0, -1, 1));
        Checks.tickTo(x, 45);
        Checks.due("45 below TODAY", x.event(1, 0, 0, 1), 0);
        x.tick(1);
        Checks.throwing("46 below TODAY", IndexOutOfBoundsException.class, () -> x.event(1, 0, 0, 1));
        Checks.due("the KEY then", x.event(1, 0, 1, 1), 0);
    }

    private static void fiveHundredAndTwelveCalls() {
        Checks.sentence("An object is used for at most 512 calls after it has been made");
        BillForge x = new BillForge();
        int calls = 0;
        while (calls < 510) {
            calls++;
            Checks.due("call " + calls, x.pay(calls % 5, 1000000), 1000000);
        }
        Checks.due("call 511", x.told(3, 3), 102000000);
        Checks.due("call 512", x.books(0), 510000000);
    }
}
