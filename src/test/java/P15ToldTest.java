/** Promise 15: told. */
public final class P15ToldTest {
    public static void main(String[] args) {
        nothingIsThere();
        whatIsTold();
        eachCustomerAlone();
        wrongNumbers();
        Checks.finish();
    }

    private static void nothingIsThere() {
        Checks.sentence("what 0: the TARIFF (-1 for none), 1: 1 if PAUSED else 0");
        BillForge x = new BillForge();
        for (int c = 0; c <= 4; c++) {
            Checks.toldIs(x, c, -1, 0, 0, 0, 0, 0, 0);
        }
    }

    private static void whatIsTold() {
        Checks.sentence("2: the STAGE, 3: CREDIT, 4: all that is OPEN, 5: DEFERRED of the PLANS, 6: EARNED.");
        BillForge x = Checks.withTariff("rest 0");
        Checks.setTariff(x, 2, "fee 310;rest 1");
        x.subscribe(4, 2);
        Checks.toldIs(x, 4, 2, 0, 0, 0, 0, 0, 0);
        x.plan(4, 400, 40);
        x.pay(4, 10);
        Checks.toldIs(x, 4, 2, 0, 0, 10, 0, 400, 0);
        x.tick(31);
        x.run();
        Checks.toldIs(x, 4, 2, 0, 0, 0, 300, 90, 310);
        x.tick(15);
        Checks.toldIs(x, 4, 2, 0, 1, 0, 300, 0, 400);
        x.pause(4, true);
        Checks.toldIs(x, 4, 2, 1, 1, 0, 300, 0, 400);
        x.subscribe(4, -1);
        Checks.toldIs(x, 4, -1, 0, 1, 0, 300, 0, 400);
        x.tick(20);
        Checks.toldIs(x, 4, -1, 1, 3, 0, 300, 0, 400);
        x.run();
        Checks.toldIs(x, 4, -1, 1, 3, 0, 300 + 310 * 15 / 29, 0, 400);
        x.pay(4, 300);
        Checks.toldIs(x, 4, -1, 0, 0, 0, 310 * 15 / 29, 0, 400);
        Checks.toldIs(x, 3, -1, 0, 0, 0, 0, 0, 0);
    }

    private static void eachCustomerAlone() {
        Checks.sentence("Of CUSTOMER c");
        BillForge x = Checks.withTariff("fee 31;rest 0");
        for (int c = 0; c <= 4; c++) {
            x.subscribe(c, 0);
            x.plan(c, 10 * (c + 1), 400);
        }
        x.tick(31);
        x.run();
        for (int c = 0; c <= 4; c++) {
            x.pay(c, 30 + c);
        }
        long[] credit = {0, 0, 1, 2, 3};
        long[] open = {1, 0, 0, 0, 0};
        for (int c = 0; c <= 4; c++) {
            long earned = 10 * (c + 1) * 31 / 400;
            Checks.toldIs(x, c, 0, 0, 0, credit[c], open[c], 10 * (c + 1) - earned, earned);
        }
    }

    private static void wrongNumbers() {
        Checks.sentence("IllegalArgumentException if a number is not as said.");
        int[] wrongCustomers = {-1, 5, Integer.MIN_VALUE, Integer.MAX_VALUE};
        int[] wrongWhats = {-1, 7, 8, Integer.MIN_VALUE, Integer.MAX_VALUE};
        for (int c : wrongCustomers) {
            for (int what = 0; what <= 6; what++) {
                int of = what;
                Checks.refusedArgument("told(" + c + ", " + what + ")", Fixtures::busy, x -> x.told(c, of));
            }
            Checks.refusedArgument("told(" + c + ", 7)", Fixtures::busy, x -> x.told(c, 7));
        }
        for (int what : wrongWhats) {
            for (int c = 0; c <= 4; c++) {
                int of = c;
                Checks.refusedArgument("told(" + c + ", " + what + ")", Fixtures::busy, x -> x.told(of, what));
            }
        }
    }
}
