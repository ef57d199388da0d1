import java.util.NoSuchElementException;

/** Promise 14: invoice. */
public final class P14InvoiceTest {
    public static void main(String[] args) {
        BillForge x = Checks.withTariff("fee 777;rest 0");
        Checks.throwing("none is there", NoSuchElementException.class, () -> x.invoice(0, 0));
        x.subscribe(3, 0);
        Checks.tickTo(x, 62);
        x.run();
        Checks.invoiceIs(x, 0, 3, 0, 777, 62, 0, 0);
        Checks.invoiceIs(x, 1, 3, 1, 777, 62, 0, 0);
        x.pay(3, 800);
        Checks.invoiceIs(x, 0, 3, 0, 777, 62, 777, 0);
        Checks.invoiceIs(x, 1, 3, 1, 777, 62, 23, 0);
        Checks.tickTo(x, 76);
        Checks.invoiceIs(x, 1, 3, 1, 777, 62, 23, 0);
        Checks.tickTo(x, 77);
        Checks.invoiceIs(x, 0, 3, 0, 777, 62, 777, 0);
        Checks.invoiceIs(x, 1, 3, 1, 777, 62, 23, 1);
        Checks.tickTo(x, 100);
        Checks.invoiceIs(x, 1, 3, 1, 777, 62, 23, 24);
        x.pay(3, 754);
        Checks.invoiceIs(x, 1, 3, 1, 777, 62, 777, 0);
        wrongNumbers(x);
        Checks.finish();
    }

    private static void wrongNumbers(BillForge x) {
        Checks.throwing("INVOICE 2", NoSuchElementException.class, () -> x.invoice(2, 0));
        Checks.throwing("INVOICE -1", NoSuchElementException.class, () -> x.invoice(-1, 0));
        Checks.throwing("none, and another what", NoSuchElementException.class, () -> x.invoice(2, 6));
        Checks.illegalArgument("what -1", () -> x.invoice(0, -1));
        Checks.illegalArgument("what 6", () -> x.invoice(0, 6));
    }
}
