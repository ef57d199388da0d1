/** Promise 11: pay. */
public final class P11PayTest {
    public static void main(String[] args) {
        creditOnly();
        theOldestFirst();
        stages();
        wrongNumbers();
        Checks.finish();
    }

    private static void creditOnly() {
        BillForge x = new BillForge();
        Checks.due("1", x.pay(0, 1), 1);
        Checks.due("1000000", x.pay(0, 1000000), 1000000);
        Checks.due("CREDIT", x.told(0, 3), 1000001);
        Checks.due("another CUSTOMER", x.pay(4, 7), 7);
        Checks.due("CASH", x.books(0), 1000008);
        Checks.due("all CREDIT", x.books(2), 1000008);
        Checks.due("CREDIT of another", x.told(1, 3), 0);
    }

    private static BillForge withThree() {
        BillForge x = Checks.withTariff("fee 100;rest 0");
        x.subscribe(0, 0);
        x.subscribe(1, 0);
        x.tick(31);
        x.run();
        Checks.tickTo(x, 40);
        x.event(1, 0, 5, 1);
        Checks.setTariff(x, 0, "fee 120;rest 0");
        x.run();
        Checks.tickTo(x, 60);
        x.run();
        return x;
    }

    private static void theOldestFirst() {
        BillForge x = withThree();
        Checks.due("INVOICES", x.count(2), 6);
        Checks.due("a part", x.pay(0, 99), 0);
        paid(x, 99, 0, 0, 0, 0, 0);
        Checks.due("over the first", x.pay(0, 2), 0);
        paid(x, 100, 0, 1, 0, 0, 0);
        Checks.due("all but one", x.pay(0, 138), 0);
        paid(x, 100, 0, 20, 0, 119, 0);
        Checks.due("more than is OPEN", x.pay(0, 5), 4);
        paid(x, 100, 0, 20, 0, 120, 0);
        Checks.due("CREDIT", x.told(0, 3), 4);
        Checks.due("what becomes CREDIT is of this amount", x.pay(0, 6), 6);
        Checks.due("CREDIT together", x.told(0, 3), 10);
        Checks.due("just what is OPEN", x.pay(1, 240), 0);
        paid(x, 100, 100, 20, 20, 120, 120);
        Checks.due("RECEIVABLE", x.books(1), 0);
        Checks.balanced("behind it", x);
    }

    private static void paid(BillForge x, long... due) {
        for (int k = 0; k < due.length; k++) {
            Checks.due("PAID of INVOICE " + k, x.invoice(k, 4), due[k]);
        }
    }

    private static void stages() {
        BillForge x = withThree();
        Checks.tickTo(x, 66);
        Checks.due("STAGE by the first", x.told(0, 2), 3);
        x.pay(0, 100);
        Checks.due("it does not fall while the second is OVERDUE", x.told(0, 2), 3);
        Checks.due("that is OVERDUE", x.invoice(2, 5), 12);
        Checks.due("by a part of it", x.pay(0, 19), 0);
        Checks.due("nor then", x.told(0, 2), 3);
        Checks.due("PAUSED", x.told(0, 1), 1);
        x.pay(0, 1);
        Checks.due("0 if nothing is OVERDUE", x.told(0, 2), 0);
        Checks.due("though something is OPEN", x.told(0, 4), 120);
        Checks.due("not PAUSED", x.told(0, 1), 0);
        Checks.due("another CUSTOMER", x.told(1, 2), 3);
        Checks.tickTo(x, 75);
        Checks.due("the third is OVERDUE by one", x.told(0, 2), 1);
    }

    private static void wrongNumbers() {
        BillForge x = new BillForge();
        Checks.illegalArgument("c -1", () -> x.pay(-1, 1));
        Checks.illegalArgument("c 5", () -> x.pay(5, 1));
        Checks.illegalArgument("amount 0", () -> x.pay(0, 0));
        Checks.illegalArgument("amount -1", () -> x.pay(0, -1));
        Checks.illegalArgument("amount 1000001", () -> x.pay(0, 1000001));
        Checks.illegalArgument("amount 2^32 + 1", () -> x.pay(0, (1L << 32) + 1));
        Checks.due("CASH", x.books(0), 0);
    }
}
