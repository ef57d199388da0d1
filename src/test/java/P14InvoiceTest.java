/** Promise 14: invoice. */
public final class P14InvoiceTest {
    public static void main(String[] args) {
        whatIsTold();
        overdue();
        noneSuch();
        theLastOfFifty();
        anotherWhat();
        noneSuchIsToldBeforeAnotherWhat();
        Checks.finish();
    }

    private static BillForge withTwo() {
        BillForge x = Checks.withTariff("fee 777;rest 0");
        x.subscribe(3, 0);
        Checks.tickTo(x, 62);
        x.run();
        return x;
    }

    private static void whatIsTold() {
        Checks.sentence("Of INVOICE k (0 the first) what 0: CUSTOMER, 1: PERIOD, 2: AMOUNT, 3: the DAY on which it was made, 4: what is PAID");
        BillForge x = withTwo();
        Checks.invoiceIs(x, 0, 3, 0, 777, 62, 0, 0);
        Checks.invoiceIs(x, 1, 3, 1, 777, 62, 0, 0);
        x.pay(3, 800);
        Checks.invoiceIs(x, 0, 3, 0, 777, 62, 777, 0);
        Checks.invoiceIs(x, 1, 3, 1, 777, 62, 23, 0);
        Checks.setTariff(x, 0, "fee 700;rest 0");
        x.run();
        Checks.invoiceIs(x, 2, 3, 0, -77, 62, -77, 0);
    }

    private static void overdue() {
        Checks.sentence("5: by how many DAYS it is OVERDUE (0 if it is not)");
        BillForge x = withTwo();
        x.pay(3, 777);
        Checks.tickTo(x, 76);
        Checks.invoiceIs(x, 1, 3, 1, 777, 62, 0, 0);
        x.tick(1);
        Checks.invoiceIs(x, 0, 3, 0, 777, 62, 777, 0);
        Checks.invoiceIs(x, 1, 3, 1, 777, 62, 0, 1);
        Checks.tickTo(x, 400);
        Checks.invoiceIs(x, 1, 3, 1, 777, 62, 0, 324);
        x.pay(3, 776);
        Checks.invoiceIs(x, 1, 3, 1, 777, 62, 776, 324);
        x.pay(3, 1);
        Checks.invoiceIs(x, 1, 3, 1, 777, 62, 777, 0);
    }

    private static void noneSuch() {
        Checks.sentence("NoSuchElementException if there is none such");
        int[] none = {-1, 2, 3, 49, 50, Integer.MIN_VALUE, Integer.MAX_VALUE};
        for (int k : none) {
            for (int what = 0; what <= 5; what++) {
                int of = what;
                Checks.refusedElement("invoice(" + k + ", " + what + ")", P14InvoiceTest::withTwo, x -> x.invoice(k, of));
            }
        }
        for (int what = 0; what <= 5; what++) {
            int of = what;
            Checks.refusedElement("invoice(0, " + what + ") of none", BillForge::new, x -> x.invoice(0, of));
            Checks.refusedElement("invoice(7, " + what + ") of seven", Fixtures::busy, x -> x.invoice(7, of));
        }
        Checks.due("the last of seven", Fixtures.busy().invoice(6, 3), 66);
    }

    private static void theLastOfFifty() {
        Checks.sentence("NoSuchElementException if there is none such");
        Checks.due("the last of 50", Fixtures.full().invoice(49, 3), 400);
        Checks.refusedElement("the one behind it", Fixtures::full, x -> x.invoice(50, 0));
        Checks.refusedElement("the one before the first", Fixtures::full, x -> x.invoice(-1, 0));
    }

    private static void anotherWhat() {
        Checks.sentence("IllegalArgumentException for another what.");
        int[] wrong = {-1, 6, 7, Integer.MIN_VALUE, Integer.MAX_VALUE};
        for (int what : wrong) {
            Checks.refusedArgument("invoice(0, " + what + ")", P14InvoiceTest::withTwo, x -> x.invoice(0, what));
            Checks.refusedArgument("invoice(1, " + what + ")", P14InvoiceTest::withTwo, x -> x.invoice(1, what));
            Checks.refusedArgument("invoice(49, " + what + ")", Fixtures::full, x -> x.invoice(49, what));
        }
    }

    private static void noneSuchIsToldBeforeAnotherWhat() {
        Checks.sentence("NoSuchElementException if there is none such; IllegalArgumentException for another what.");
        int[] wrong = {-1, 6, Integer.MIN_VALUE, Integer.MAX_VALUE};
        for (int what : wrong) {
            Checks.refusedElement("invoice(2, " + what + ")", P14InvoiceTest::withTwo, x -> x.invoice(2, what));
            Checks.refusedElement("invoice(-1, " + what + ")", P14InvoiceTest::withTwo, x -> x.invoice(-1, what));
            Checks.refusedElement("invoice(0, " + what + ")", BillForge::new, x -> x.invoice(0, what));
        }
    }
}
