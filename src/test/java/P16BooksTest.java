/** Promise 16: books, and of the terms that they balance. */
public final class P16BooksTest {
    public static void main(String[] args) {
        empty();
        whatIsTold();
        ofAllCustomers();
        balancedOnEachDay();
        balancedWhenFull();
        wrongNumbers();
        Checks.finish();
    }

    private static void row(BillForge x, long... due) {
        Checks.booksAre(x, due);
        Checks.balanced("on " + x.count(0), x);
    }

    private static void empty() {
        Checks.sentence("THE BOOKS: what 0: CASH, 1: RECEIVABLE, 2: CREDIT, 3: REVENUE, 4: DEFERRED.");
        row(new BillForge(), 0, 0, 0, 0, 0);
        BillForge x = new BillForge();
        Checks.tickTo(x, 400);
        x.run();
        row(x, 0, 0, 0, 0, 0);
    }

    private static void whatIsTold() {
        Checks.sentence("CASH, all that was paid (by pay and plan); RECEIVABLE, all that is OPEN; CREDIT, that of all CUSTOMERS; "
                + "REVENUE, all AMOUNTS of INVOICES and what is EARNED; DEFERRED.");
        BillForge x = Checks.withTariff("fee 310;rest 1");
        x.subscribe(0, 0);
        x.subscribe(1, 0);
        x.pay(0, 1000);
        row(x, 1000, 0, 1000, 0, 0);
        x.plan(2, 620, 62);
        row(x, 1620, 0, 1000, 0, 620);
        x.tick(31);
        row(x, 1620, 0, 1000, 310, 310);
        x.run();
        row(x, 1620, 310, 690, 930, 310);
        x.pay(1, 300);
        row(x, 1920, 10, 690, 930, 310);
        x.event(1, 1, 0, 90);
        x.run();
        row(x, 1920, 100, 690, 1020, 310);
        Checks.setTariff(x, 0, "rest 0");
        x.run();
        row(x, 1920, 0, 1300, 310, 310);
        x.tick(31);
        row(x, 1920, 0, 1300, 620, 0);
    }

    private static void ofAllCustomers() {
        Checks.sentence("CREDIT, that of all CUSTOMERS");
        BillForge x = Checks.withTariff("fee 31;rest 0");
        for (int c = 0; c <= 4; c++) {
            x.pay(c, 1 << c);
            x.plan(c, 100 << c, 100);
        }
        row(x, 31 + 3100, 0, 31, 0, 3100);
        x.tick(1);
        row(x, 31 + 3100, 0, 31, 31, 3069);
        BillForge open = Checks.withTariff("fee 31;rest 0");
        for (int c = 0; c <= 4; c++) {
            open.subscribe(c, 0);
        }
        open.tick(31);
        open.run();
        row(open, 0, 155, 0, 155, 0);
        open.pay(4, 30);
        open.pay(0, 32);
        row(open, 62, 94, 1, 155, 0);
    }

    private static void balancedOnEachDay() {
        Checks.sentence("(CASH and RECEIVABLE together are CREDIT, REVENUE and DEFERRED together.)");
        BillForge x = Fixtures.busy();
        for (int i = 0; i < 20; i++) {
            Checks.balanced("tick " + i, x);
            x.tick(7);
            x.run();
            Checks.balanced("run " + i, x);
            x.pay(i % 5, 1 + 50 * i);
            Checks.balanced("pay " + i, x);
        }
    }

    private static void balancedWhenFull() {
        Checks.sentence("(CASH and RECEIVABLE together are CREDIT, REVENUE and DEFERRED together.)");
        BillForge x = Fixtures.full();
        Checks.balanced("full", x);
        Checks.illegalState("a refused PLAN", () -> x.plan(0, 1, 1));
        Checks.balanced("behind a refused PLAN", x);
        x.tariff(0);
        Checks.due("NOTES without room", x.run(), 0);
        Checks.balanced("behind NOTES without room", x);
        x.pay(0, 1000000);
        Checks.balanced("behind a payment", x);
    }

    private static void wrongNumbers() {
        Checks.sentence("IllegalArgumentException for others.");
        int[] wrong = {-1, 5, 6, Integer.MIN_VALUE, Integer.MAX_VALUE};
        for (int what : wrong) {
            Checks.refusedArgument("books " + what, BillForge::new, x -> x.books(what));
            Checks.refusedArgument("books " + what, Fixtures::busy, x -> x.books(what));
            Checks.refusedArgument("books " + what, Fixtures::full, x -> x.books(what));
        }
    }
}
