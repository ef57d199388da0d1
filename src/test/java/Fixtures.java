/** Objects on which tests begin. Each is made with so few calls that more than 400 are left. */
final class Fixtures {
    private Fixtures() {
    }

    /**
     * Something of everything on DAY 82: CUSTOMER 0 has STAGE 1, 1 and 3 have STAGE 3, 2 is PAUSED and has CREDIT,
     * 4 has no TARIFF and a PLAN; seven INVOICES, EVENTS with the KEYS 1 to 4, a TARIFF in THE TEXT, and a where.
     */
    static BillForge busy() {
        BillForge x = new BillForge();
        Checks.setTariff(x, 0, "fee 310;free 20;min 50;tier 10 5;rest 1");
        Checks.setTariff(x, 1, "fee 93;per 10 99;rest 0");
        x.subscribe(1, 1);
        x.subscribe(2, 0);
        x.subscribe(3, 1);
        x.event(1, 1, 0, 45);
        x.event(2, 2, 0, 60);
        x.tick(31);
        x.run();
        x.pay(1, 5);
        x.pay(2, 3000);
        x.tick(15);
        x.subscribe(0, 0);
        x.event(3, 0, 46, 44);
        x.event(4, 2, 40, 11);
        x.plan(4, 700, 70);
        x.tick(20);
        x.run();
        x.pause(2, true);
        x.tick(16);
        Checks.write(x, "min 9;");
        leaveFault(x);
        Checks.write(x, "rest 4");
        return x;
    }

    private static void leaveFault(BillForge x) {
        try {
            x.tariff(0);
        } catch (IllegalArgumentException e) {
            return;
        }
    }

    /** The most of everything: DAY 400, 80 EVENTS (KEYS 1 to 80), 50 INVOICES, 10 PLANS, 60 characters, a TARIFF. */
    static BillForge full() {
        BillForge x = Checks.withTariff("fee 100;rest 1");
        for (int c = 0; c <= 4; c++) {
            x.subscribe(c, 0);
        }
        Checks.tickTo(x, 400);
        for (int key = 1; key <= 80; key++) {
            x.event(key, key % 5, 355 + key % 46, key);
        }
        x.run();
        for (int i = 1; i <= 10; i++) {
            x.plan(i % 5, 100 * i, i);
        }
        Checks.write(x, "fee 1;rest 2" + " ".repeat(48));
        return x;
    }

    /** On DAY 31 CUSTOMER 0 has an INVOICE of 310 that was made on that DAY, and goes on with fee 310 and rest 1. */
    static BillForge owing() {
        BillForge x = Checks.withTariff("fee 310;rest 1");
        x.subscribe(0, 0);
        x.tick(31);
        x.run();
        return x;
    }

    /** As owing, so many DAYS behind that on which the INVOICE was made. */
    static BillForge owingFor(int days) {
        BillForge x = owing();
        Checks.tickTo(x, 31 + days);
        return x;
    }
}
