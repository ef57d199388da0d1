/** Promise 11: pay. What CREDIT pays stands in TermsInvoiceTest. */
public final class P11PayTest {
    public static void main(String[] args) {
        nothingIsOpen();
        aroundWhatIsOpen();
        overSeveralInvoices();
        becomesCreditOfThisPayment();
        oneToAMillion();
        wrongCustomers();
        wrongAmounts();
        Checks.finish();
    }

    private static void nothingIsOpen() {
        Checks.sentence("CUSTOMER c pays: what becomes CREDIT, as far as it does not pay OPEN INVOICES.");
        BillForge x = new BillForge();
        for (int c = 0; c <= 4; c++) {
            Checks.due("CUSTOMER " + c, x.pay(c, 10 + c), 10 + c);
        }
        for (int c = 0; c <= 4; c++) {
            Checks.toldIs(x, c, -1, 0, 0, 10 + c, 0, 0, 0);
        }
        Checks.booksAre(x, 60, 0, 60, 0, 0);
    }

    private static void aroundWhatIsOpen() {
        Checks.sentence("what becomes CREDIT, as far as it does not pay OPEN INVOICES.");
        long[] amounts = {1, 309, 310, 311, 1000000};
        for (long amount : amounts) {
            BillForge x = Fixtures.owing();
            long credit = Math.max(0, amount - 310);
            Checks.due("pay " + amount, x.pay(0, amount), credit);
            Checks.due("CREDIT behind " + amount, x.told(0, 3), credit);
            Checks.due("PAID behind " + amount, x.invoice(0, 4), amount - credit);
            Checks.due("OPEN behind " + amount, x.told(0, 4), 310 - amount + credit);
            Checks.booksAre(x, amount, 310 - amount + credit, credit, 310, 0);
        }
    }

    private static void overSeveralInvoices() {
        Checks.sentence("what becomes CREDIT, as far as it does not pay OPEN INVOICES.");
        long[] amounts = {619, 620, 621};
        for (long amount : amounts) {
            BillForge x = Fixtures.owingFor(29);
            x.run();
            Checks.due("pay " + amount, x.pay(0, amount), Math.max(0, amount - 620));
            Checks.due("PAID of the first", x.invoice(0, 4), 310);
            Checks.due("PAID of the second", x.invoice(1, 4), Math.min(310, amount - 310));
        }
        BillForge other = Fixtures.owing();
        Checks.due("OPEN of another is not paid", other.pay(1, 310), 310);
        Checks.due("it stays OPEN", other.told(0, 4), 310);
    }

    private static void becomesCreditOfThisPayment() {
        Checks.sentence("what becomes CREDIT");
        BillForge x = Fixtures.owing();
        Checks.due("first", x.pay(0, 314), 4);
        Checks.due("second", x.pay(0, 6), 6);
        Checks.due("CREDIT together", x.told(0, 3), 10);
        Checks.due("CASH together", x.books(0), 320);
    }

    private static void oneToAMillion() {
        Checks.sentence("or the amount not 1 to 1000000");
        BillForge x = new BillForge();
        Checks.due("1", x.pay(0, 1), 1);
        Checks.due("1000000", x.pay(0, 1000000), 1000000);
        Checks.due("CREDIT", x.told(0, 3), 1000001);
        for (int i = 0; i < 400; i++) {
            x.pay(4, 1000000);
        }
        Checks.due("CREDIT of many", x.told(4, 3), 400000000L);
        Checks.due("CASH of many", x.books(0), 401000001L);
    }

    private static void wrongCustomers() {
        Checks.sentence("IllegalArgumentException if c is not 0 to 4");
        int[] wrong = {-1, 5, Integer.MIN_VALUE, Integer.MAX_VALUE};
        for (int c : wrong) {
            Checks.refusedArgument("CUSTOMER " + c, Fixtures::busy, x -> x.pay(c, 1));
            Checks.refusedArgument("CUSTOMER " + c + " with the most", BillForge::new, x -> x.pay(c, 1000000));
            Checks.refusedArgument("CUSTOMER " + c + " and a wrong amount", Fixtures::busy, x -> x.pay(c, 0));
        }
    }

    private static void wrongAmounts() {
        Checks.sentence("IllegalArgumentException if [...] the amount not 1 to 1000000.");
        long[] wrong = {0, -1, -1000000, 1000001, 1L << 31, 1L << 32, (1L << 32) + 1, (1L << 33) + 500, Long.MIN_VALUE,
            Long.MIN_VALUE + 1, Long.MAX_VALUE};
        for (long amount : wrong) {
            for (int c = 0; c <= 4; c++) {
                int of = c;
                Checks.refusedArgument("amount " + amount + " of " + c, Fixtures::busy, x -> x.pay(of, amount));
            }
            Checks.refusedArgument("amount " + amount, BillForge::new, x -> x.pay(0, amount));
            Checks.refusedArgument("amount " + amount + " of a full object", Fixtures::full, x -> x.pay(0, amount));
        }
    }
}
