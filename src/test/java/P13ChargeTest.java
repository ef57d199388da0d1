/** Promise 13: charge. */
public final class P13ChargeTest {
    public static void main(String[] args) {
        feeFreeAndMinByDays();
        eachTariffAlone();
        eventsOnOtherDays();
        periodsOfTheirOwnLength();
        asTheTariffIsNow();
        wrongNumbers();
        Checks.finish();
    }

    private static void feeFreeAndMinByDays() {
        BillForge x = Checks.withTariff("fee 1000;free 100;min 500;rest 10");
        x.subscribe(0, 0);
        Checks.due("1 of 31", x.charge(0, 0), 32 + 16);
        x.event(1, 0, 0, 5);
        // FREE is 3, so two UNITS cost 20.
        Checks.due("1 of 31 with UNITS", x.charge(0, 0), 32 + 20);
        x.tick(9);
        Checks.due("10 of 31", x.charge(0, 0), 322 + 161);
        x.event(2, 0, 9, 50);
        Checks.due("10 of 31 with UNITS", x.charge(0, 0), 322 + (55 - 32) * 10);
        x.tick(22);
        Checks.due("31 of 31", x.charge(0, 0), 1000 + 500);
        Checks.due("1 of 29", x.charge(0, 1), 34 + 17);
    }

    private static void eachTariffAlone() {
        BillForge x = Checks.withTariff("fee 31;tier 10 5;rest 1");
        Checks.setTariff(x, 1, "fee 62;per 10 7;rest 1");
        x.subscribe(0, 0);
        x.event(1, 0, 0, 8);
        x.tick(1);
        x.subscribe(0, 1);
        x.event(2, 0, 1, 11);
        x.tick(1);
        x.subscribe(0, 0);
        x.event(3, 0, 2, 8);
        // TARIFF 0: 2 days, 16 UNITS together; TARIFF 1: 1 day, 11 UNITS.
        Checks.due("two TARIFFS", x.charge(0, 0), 2 + 56 + 2 + 14);
    }

    private static void eventsOnOtherDays() {
        BillForge x = Checks.withTariff("rest 1");
        x.event(1, 0, 0, 1000);
        x.tick(1);
        x.subscribe(0, 0);
        x.subscribe(1, 0);
        x.event(2, 0, 1, 20);
        x.event(3, 1, 1, 300);
        Checks.due("days without TARIFF cost nothing", x.charge(0, 0), 20);
        Checks.due("EVENTS of another CUSTOMER", x.charge(1, 0), 300);
        Checks.tickTo(x, 31);
        x.event(4, 0, 30, 7);
        x.event(5, 0, 31, 900);
        Checks.due("the last DAY of the PERIOD", x.charge(0, 0), 27);
        Checks.due("the first DAY of the next", x.charge(0, 1), 900);
    }

    private static void periodsOfTheirOwnLength() {
        BillForge x = Checks.withTariff("fee 86304;rest 0");
        x.subscribe(0, 0);
        x.tick(40);
        Checks.due("January", x.charge(0, 0), 86304);
        Checks.due("February to DAY 40", x.charge(0, 1), 86304 * 10 / 29);
        Checks.due("March has not begun", x.charge(0, 2), 0);
        Checks.tickTo(x, 400);
        for (int p = 0; p <= 12; p++) {
            Checks.due("PERIOD " + p, x.charge(0, p), 86304);
        }
        Checks.due("February 2001 has 28 days", x.charge(0, 13), 86304 * 4 / 28);
    }

    private static void asTheTariffIsNow() {
        BillForge x = Checks.withTariff("fee 310;rest 0");
        x.subscribe(0, 0);
        x.tick(31);
        Checks.setTariff(x, 0, "fee 620;rest 0");
        Checks.due("as it is written now", x.charge(0, 0), 620);
        x.run();
        Checks.due("INVOICES change nothing of it", x.charge(0, 0), 620);
    }

    private static void wrongNumbers() {
        BillForge x = new BillForge();
        Checks.illegalArgument("c -1", () -> x.charge(-1, 0));
        Checks.illegalArgument("c 5", () -> x.charge(5, 0));
        Checks.illegalArgument("p -1", () -> x.charge(0, -1));
        Checks.illegalArgument("p 14", () -> x.charge(0, 14));
        Checks.due("p 13", x.charge(4, 13), 0);
    }
}
