import java.util.NoSuchElementException;

/** Promise 10: run. What INVOICES there should be stands in TermsInvoiceTest. */
public final class P10RunTest {
    public static void main(String[] args) {
        nothingToMake();
        byCustomersThenPeriods();
        notesStandAmongInvoices();
        justFifty();
        fortyNineAndTwo();
        moreThanFifty();
        noRoomForNotes();
        Checks.finish();
    }

    private static void nothingToMake() {
        Checks.sentence("INVOICES are made where they should be [...]: how many.");
        Checks.due("a new object", new BillForge().run(), 0);
        BillForge x = new BillForge();
        Checks.tickTo(x, 400);
        Checks.due("without SUBSCRIPTIONS", x.run(), 0);
        BillForge again = Fixtures.busy();
        Checks.due("again on the same DAY", again.run(), 0);
        Checks.sameState("a run that makes none", again, Fixtures.busy());
    }

    private static void byCustomersThenPeriods() {
        Checks.sentence("by CUSTOMERS, then PERIODS");
        BillForge x = Checks.withTariff("fee 100;rest 0");
        for (int c = 4; c >= 0; c--) {
            x.subscribe(c, 0);
        }
        Checks.tickTo(x, 91);
        Checks.due("run", x.run(), 15);
        for (int k = 0; k < 15; k++) {
            Checks.invoiceIs(x, k, k / 3, k % 3, 100, 91, 0, 0);
        }
        BillForge all = Checks.withTariff("fee 100;rest 0");
        all.subscribe(4, 0);
        Checks.tickTo(all, 400);
        Checks.due("PERIODS 0 to 12 have ended", all.run(), 13);
        for (int p = 0; p <= 12; p++) {
            Checks.invoiceIs(all, p, 4, p, 100, 400, 0, 0);
        }
    }

    private static void notesStandAmongInvoices() {
        Checks.sentence("by CUSTOMERS, then PERIODS");
        BillForge x = Checks.withTariff("fee 100;rest 1");
        x.subscribe(0, 0);
        x.subscribe(1, 0);
        x.tick(31);
        x.run();
        x.event(1, 1, 30, 5);
        x.event(2, 0, 30, 6);
        Checks.tickTo(x, 60);
        Checks.due("two NOTES and two INVOICES", x.run(), 4);
        Checks.invoiceIs(x, 2, 0, 0, 6, 60, 0, 0);
        Checks.invoiceIs(x, 3, 0, 1, 100, 60, 0, 0);
        Checks.invoiceIs(x, 4, 1, 0, 5, 60, 0, 0);
        Checks.invoiceIs(x, 5, 1, 1, 100, 60, 0, 0);
    }

    /** CUSTOMERS with a fee of 100 each, on a DAY. */
    private static BillForge customers(int howMany, int day) {
        BillForge x = Checks.withTariff("fee 100;rest 1");
        for (int c = 0; c < howMany; c++) {
            x.subscribe(c, 0);
        }
        Checks.tickTo(x, day);
        return x;
    }

    private static void justFifty() {
        Checks.sentence("Those that do not find room, 50 being the most, are not made.");
        BillForge x = customers(5, 305);
        Checks.due("10 PERIODS of 5 CUSTOMERS", x.run(), 50);
        Checks.due("INVOICES", x.count(2), 50);
        Checks.invoiceIs(x, 49, 4, 9, 100, 305, 0, 0);
        Checks.throwing("INVOICE 50", NoSuchElementException.class, () -> x.invoice(50, 0));
        Checks.due("again", x.run(), 0);
        Checks.tickTo(x, 335);
        Checks.due("the next PERIOD finds no room", x.run(), 0);
        Checks.due("INVOICES", x.count(2), 50);
        Checks.due("RECEIVABLE", x.books(1), 5000);
        Checks.balanced("with 50", x);
    }

    private static void fortyNineAndTwo() {
        Checks.sentence("Those that do not find room, 50 being the most, are not made.");
        BillForge x = customers(4, 366);
        Checks.due("12 PERIODS of 4 CUSTOMERS", x.run(), 48);
        x.event(1, 3, 340, 7);
        Checks.due("the 49th", x.run(), 1);
        x.event(2, 0, 340, 8);
        x.event(3, 1, 340, 9);
        Checks.due("only one of two finds room", x.run(), 1);
        Checks.invoiceIs(x, 49, 0, 11, 8, 366, 0, 0);
        Checks.due("OPEN of the other", x.told(1, 4), 1200);
        Checks.due("the other does not find it later", x.run(), 0);
        Checks.due("INVOICES", x.count(2), 50);
        Checks.balanced("with 50", x);
    }

    private static void moreThanFifty() {
        Checks.sentence("Those that do not find room, 50 being the most, are not made.");
        BillForge x = customers(5, 366);
        x.pay(4, 3000);
        Checks.due("60 should be made", x.run(), 50);
        Checks.due("INVOICES", x.count(2), 50);
        Checks.invoiceIs(x, 47, 3, 11, 100, 366, 0, 0);
        Checks.invoiceIs(x, 48, 4, 0, 100, 366, 100, 0);
        Checks.invoiceIs(x, 49, 4, 1, 100, 366, 100, 0);
        Checks.due("those that are not made take no CREDIT", x.told(4, 3), 2800);
        Checks.booksAre(x, 3000, 4800, 2800, 5000, 0);
        Checks.due("none more", x.run(), 0);
        Checks.refusedElement("INVOICE 50", Fixtures::full, y -> y.invoice(50, 0));
    }

    private static void noRoomForNotes() {
        Checks.sentence("Those that do not find room, 50 being the most, are not made.");
        BillForge x = customers(5, 366);
        x.run();
        x.pay(0, 1200);
        Checks.setTariff(x, 0, "rest 0");
        Checks.due("NOTES below 0", x.run(), 0);
        Checks.due("no CREDIT of them", x.told(0, 3), 0);
        Checks.due("what is OPEN stays", x.told(1, 4), 1200);
        Checks.booksAre(x, 1200, 3800, 0, 5000, 0);
    }
}
