/** Promise 13: charge, and of the terms what THE CHARGE is. */
public final class P13ChargeTest {
    public static void main(String[] args) {
        feeByDays();
        freeByDays();
        minByDays();
        allTogether();
        eachTariffAlone();
        noLiveDays();
        eventsOnOtherDays();
        eventsOfThePeriod();
        periodsOfTheirOwnLength();
        theGreatestCharge();
        asItIsNow();
        periodsZeroToThirteen();
        wrongNumbers();
        Checks.finish();
    }

    /** CUSTOMER 0 had TARIFF 0 on so many first DAYS of January, which is over. */
    private static BillForge liveFor(String tariff, int days) {
        BillForge x = Checks.withTariff(tariff);
        x.subscribe(0, 0);
        if (days > 0) {
            x.tick(days);
        }
        x.subscribe(0, -1);
        Checks.tickTo(x, 31);
        return x;
    }

    private static void feeByDays() {
        Checks.sentence("fee * d / D");
        int[] fees = {0, 1, 30, 31, 32, 1000, 99999};
        for (int fee : fees) {
            for (int days = 0; days <= 31; days++) {
                BillForge x = liveFor("fee " + fee + ";rest 0", days);
                Checks.due("fee " + fee + " on " + days + " DAYS", x.charge(0, 0), (long) fee * days / 31);
            }
        }
    }

    private static void freeByDays() {
        Checks.sentence("with FREE and MIN being theirs * d / D");
        for (int days = 1; days <= 31; days++) {
            BillForge x = liveFor("free 100;rest 1", days);
            int free = 100 * days / 31;
            x.event(1, 0, 0, free);
            Checks.due("just those that are FREE on " + days + " DAYS", x.charge(0, 0), 0);
            x.event(2, 0, days - 1, 1);
            Checks.due("one more on " + days + " DAYS", x.charge(0, 0), 1);
        }
        BillForge few = liveFor("free 30;rest 1", 1);
        few.event(1, 0, 0, 1);
        Checks.due("30 * 1 / 31 are none", few.charge(0, 0), 1);
    }

    private static void minByDays() {
        Checks.sentence("with FREE and MIN being theirs * d / D");
        for (int days = 1; days <= 31; days++) {
            BillForge x = liveFor("min 500;rest 1", days);
            int min = 500 * days / 31;
            Checks.due("without EVENTS on " + days + " DAYS", x.charge(0, 0), min);
            x.event(1, 0, 0, min);
            Checks.due("just MIN on " + days + " DAYS", x.charge(0, 0), min);
            x.event(2, 0, 0, 1);
            Checks.due("one more on " + days + " DAYS", x.charge(0, 0), min + 1);
        }
        Checks.due("30 * 1 / 31 is nothing", liveFor("min 30;rest 1", 1).charge(0, 0), 0);
    }

    private static void allTogether() {
        Checks.sentence("fee * d / D, and the USE for the UNITS of the EVENTS on these DAYS");
        BillForge x = Checks.withTariff("fee 1000;free 100;min 500;rest 10");
        x.subscribe(0, 0);
        Checks.due("1 of 31", x.charge(0, 0), 32 + 16);
        x.event(1, 0, 0, 5);
        // FREE is 3, so two UNITS cost 20.
        Checks.due("1 of 31 with UNITS", x.charge(0, 0), 32 + 20);
        x.tick(9);
        Checks.due("10 of 31", x.charge(0, 0), 322 + 161);
        x.event(2, 0, 9, 50);
        Checks.due("10 of 31 with UNITS", x.charge(0, 0), 322 + (55 - 32) * 10);
        x.tick(22);
        Checks.due("31 of 31", x.charge(0, 0), 1000 + 500);
        Checks.due("1 of 29", x.charge(0, 1), 34 + 17);
    }

    private static void eachTariffAlone() {
        Checks.sentence("the sum of, for each TARIFF that has LIVE DAYS in it");
        BillForge x = Checks.withTariff("fee 31;tier 10 5;rest 1");
        Checks.setTariff(x, 1, "fee 62;per 10 7;rest 1");
        Checks.setTariff(x, 2, "fee 45;min 45;rest 0");
        x.subscribe(0, 0);
        x.event(1, 0, 0, 8);
        x.tick(1);
        x.subscribe(0, 1);
        x.event(2, 0, 1, 11);
        x.tick(1);
        x.subscribe(0, 0);
        x.event(3, 0, 2, 8);
        // TARIFF 0: 2 days, 16 UNITS together; TARIFF 1: 1 day, 11 UNITS.
        Checks.due("two TARIFFS", x.charge(0, 0), 2 + 56 + 2 + 14);
        x.tick(1);
        x.subscribe(0, 2);
        Checks.due("three TARIFFS, each division cut alone", x.charge(0, 0), 74 + 1 + 1);
    }

    private static void noLiveDays() {
        Checks.sentence("for each TARIFF that has LIVE DAYS in it");
        BillForge x = Checks.withTariff("fee 31;min 310;rest 1");
        Checks.setTariff(x, 1, "fee 99999;min 99999;rest 1");
        x.subscribe(0, 0);
        Checks.due("none but TARIFF 0", x.charge(0, 0), 11);
        x.pause(0, true);
        Checks.due("none when PAUSED", x.charge(0, 0), 0);
        x.subscribe(0, 1);
        x.subscribe(0, -1);
        Checks.due("none without TARIFF", x.charge(0, 0), 0);
        x.event(1, 0, 0, 10000);
        Checks.due("none with UNITS", x.charge(0, 0), 0);
    }

    private static void eventsOnOtherDays() {
        Checks.sentence("(EVENTS on other DAYS cost nothing.)");
        BillForge x = Checks.withTariff("rest 1");
        x.event(1, 0, 0, 1000);
        x.tick(1);
        x.subscribe(0, 0);
        x.subscribe(1, 0);
        x.event(2, 0, 1, 20);
        x.event(3, 1, 1, 300);
        Checks.due("a DAY without TARIFF", x.charge(0, 0), 20);
        Checks.due("EVENTS of another CUSTOMER", x.charge(1, 0), 300);
        x.tick(1);
        x.pause(0, true);
        x.event(4, 0, 2, 4000);
        x.tick(1);
        x.pause(0, false);
        Checks.due("a DAY that was PAUSED", x.charge(0, 0), 20);
        x.event(5, 0, 2, 4000);
        x.event(6, 0, 3, 3);
        Checks.due("one that came late", x.charge(0, 0), 23);
    }

    private static void eventsOfThePeriod() {
        Checks.sentence("the USE for the UNITS of the EVENTS on these DAYS");
        BillForge x = Checks.withTariff("rest 1");
        x.subscribe(0, 0);
        Checks.tickTo(x, 31);
        x.event(1, 0, 0, 1);
        x.event(2, 0, 30, 20);
        x.event(3, 0, 31, 300);
        Checks.due("the first and the last DAY", x.charge(0, 0), 21);
        Checks.due("the first DAY of the next", x.charge(0, 1), 300);
        Checks.tickTo(x, 60);
        x.event(4, 0, 59, 4000);
        x.event(5, 0, 60, 5000);
        Checks.due("29 February", x.charge(0, 1), 4300);
        Checks.due("1 March", x.charge(0, 2), 5000);
    }

    private static void periodsOfTheirOwnLength() {
        Checks.sentence("THE CHARGE of a CUSTOMER for a PERIOD of D DAYS");
        int[] lengths = {31, 29, 31, 30, 31, 30, 31, 31, 30, 31, 30, 31, 31, 28};
        BillForge x = Checks.withTariff("fee 86304;rest 0");
        x.subscribe(0, 0);
        int first = 0;
        for (int p = 0; p <= 13; p++) {
            Checks.tickTo(x, first);
            Checks.due("the first DAY of PERIOD " + p, x.charge(0, p), 86304 / lengths[p]);
            if (p < 13) {
                Checks.tickTo(x, first + lengths[p] - 2);
                Checks.due("all but the last", x.charge(0, p), 86304L * (lengths[p] - 1) / lengths[p]);
                Checks.tickTo(x, first + lengths[p] - 1);
                Checks.due("the last", x.charge(0, p), 86304);
                Checks.due("the next has not begun", x.charge(0, p + 1), 0);
            }
            first += lengths[p];
        }
        Checks.tickTo(x, 400);
        Checks.due("February 2001 up to DAY 400", x.charge(0, 13), 86304 * 4 / 28);
    }

    private static void theGreatestCharge() {
        Checks.sentence("Amounts are cents (longs)");
        BillForge x = Checks.withTariff("fee 99999;min 99999;rest 99999");
        x.subscribe(0, 0);
        for (int key = 0; key < 80; key++) {
            x.event(key, 0, 0, 10000);
        }
        x.tick(31);
        Checks.due("80 EVENTS", x.charge(0, 0), 99999L + 800000L * 99999);
        Checks.setTariff(x, 0, "per 1 99999;rest 0");
        Checks.due("80 EVENTS by per", x.charge(0, 0), 800000L * 99999);
        Checks.setTariff(x, 0, "tier 99999 99999;rest 99999");
        Checks.due("80 EVENTS by tier", x.charge(0, 0), 800000L * 99999);
    }

    private static void asItIsNow() {
        Checks.sentence("THE CHARGE of CUSTOMER c for PERIOD p (0 to 13), as it is now.");
        BillForge x = Checks.withTariff("fee 310;rest 0");
        x.subscribe(0, 0);
        x.tick(31);
        Checks.setTariff(x, 0, "fee 620;rest 0");
        Checks.due("as it is written now", x.charge(0, 0), 620);
        x.run();
        Checks.due("INVOICES change nothing of it", x.charge(0, 0), 620);
        x.pay(0, 620);
        Checks.due("nor payments", x.charge(0, 0), 620);
        Checks.due("asked for another", x.charge(1, 0), 0);
        Checks.due("asked again", x.charge(0, 0), 620);
    }

    private static void periodsZeroToThirteen() {
        Checks.sentence("PERIOD p (0 to 13)");
        BillForge x = Checks.withTariff("fee 310;rest 0");
        for (int c = 0; c <= 4; c++) {
            x.subscribe(c, 0);
        }
        Checks.tickTo(x, 400);
        for (int c = 0; c <= 4; c++) {
            Checks.due("PERIOD 0 of " + c, x.charge(c, 0), 310);
            Checks.due("PERIOD 12 of " + c, x.charge(c, 12), 310);
            Checks.due("PERIOD 13 of " + c, x.charge(c, 13), 310 * 4 / 28);
        }
    }

    private static void wrongNumbers() {
        Checks.sentence("IllegalArgumentException if a number is not as said.");
        int[] wrongCustomers = {-1, 5, Integer.MIN_VALUE, Integer.MAX_VALUE};
        int[] wrongPeriods = {-1, 14, 15, Integer.MIN_VALUE, Integer.MAX_VALUE};
        for (int c : wrongCustomers) {
            Checks.refusedArgument("CUSTOMER " + c, Fixtures::busy, x -> x.charge(c, 0));
            Checks.refusedArgument("CUSTOMER " + c + " of a new object", BillForge::new, x -> x.charge(c, 13));
            Checks.refusedArgument("CUSTOMER " + c + " and a wrong PERIOD", Fixtures::busy, x -> x.charge(c, 14));
        }
        for (int p : wrongPeriods) {
            Checks.refusedArgument("PERIOD " + p, Fixtures::busy, x -> x.charge(0, p));
            Checks.refusedArgument("PERIOD " + p + " of a new object", BillForge::new, x -> x.charge(4, p));
            Checks.refusedArgument("PERIOD " + p + " of a full object", Fixtures::full, x -> x.charge(4, p));
        }
    }
}
