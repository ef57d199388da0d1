/** Promise 10: run. */
public final class P10RunTest {
    public static void main(String[] args) {
        periodsThatHaveEnded();
        byCustomersThenPeriods();
        notesForWhatCameLate();
        creditPaysNewInvoices();
        aNoteBelowZeroPaysTheOldest();
        aNoteBelowZeroEndsTheStage();
        fiftyAreTheMost();
        Checks.finish();
    }

    private static void periodsThatHaveEnded() {
        BillForge x = Checks.withTariff("fee 310;rest 1");
        x.subscribe(2, 0);
        x.tick(30);
        Checks.due("the last DAY is TODAY", x.run(), 0);
        x.tick(1);
        Checks.due("the last DAY is before TODAY", x.run(), 1);
        Checks.due("it is there", x.run(), 0);
        Checks.invoiceIs(x, 0, 2, 0, 310, 31, 0, 0);
        Checks.tickTo(x, 59);
        Checks.due("February has 29 days", x.run(), 0);
        x.tick(1);
        Checks.due("and ends then", x.run(), 1);
        Checks.invoiceIs(x, 1, 2, 1, 310, 60, 0, 0);
        x.subscribe(2, -1);
        Checks.tickTo(x, 91);
        Checks.due("a CHARGE of 0", x.run(), 0);
        Checks.tickTo(x, 400);
        x.pay(2, 1);
        Checks.due("nothing more", x.run(), 0);
        Checks.balanced("behind it", x);
    }

    private static void byCustomersThenPeriods() {
        BillForge x = Checks.withTariff("fee 100;rest 0");
        x.subscribe(4, 0);
        x.subscribe(1, 0);
        Checks.tickTo(x, 91);
        Checks.due("run", x.run(), 6);
        for (int k = 0; k < 6; k++) {
            Checks.invoiceIs(x, k, k < 3 ? 1 : 4, k % 3, 100, 91, 0);
        }
        BillForge y = Checks.withTariff("fee 100;rest 0");
        y.subscribe(0, 0);
        Checks.tickTo(y, 400);
        Checks.due("PERIODS 0 to 12 have ended", y.run(), 13);
        Checks.invoiceIs(y, 12, 0, 12, 100, 400);
    }

    private static void notesForWhatCameLate() {
        BillForge x = Checks.withTariff("fee 310;rest 1");
        x.subscribe(0, 0);
        x.tick(31);
        x.run();
        x.event(1, 0, 30, 40);
        Checks.due("an EVENT that came late", x.run(), 1);
        Checks.invoiceIs(x, 1, 0, 0, 40, 31, 0, 0);
        Checks.setTariff(x, 0, "fee 31;rest 1");
        Checks.due("the TARIFF as it is written now", x.run(), 1);
        Checks.invoiceIs(x, 2, 0, 0, -279, 31, -279, 0);
        Checks.invoiceIs(x, 0, 0, 0, 310, 31, 279, 0);
        Checks.due("CREDIT is gone", x.told(0, 3), 0);
        Checks.due("OPEN", x.told(0, 4), 31 + 40);
        Checks.due("together they are the CHARGE", x.books(3), x.charge(0, 0));
        Checks.due("nothing more", x.run(), 0);
        x.tick(20);
        Checks.due("a NOTE below 0 is never OVERDUE", x.invoice(2, 5), 0);
        Checks.due("one that is OPEN is", x.invoice(1, 5), 6);
        Checks.balanced("behind it", x);
    }

    private static void creditPaysNewInvoices() {
        BillForge x = Checks.withTariff("fee 310;rest 1");
        x.subscribe(0, 0);
        x.pay(0, 500);
        Checks.tickTo(x, 60);
        Checks.due("run", x.run(), 2);
        Checks.invoiceIs(x, 0, 0, 0, 310, 60, 310, 0);
        Checks.invoiceIs(x, 1, 0, 1, 310, 60, 190, 0);
        Checks.due("CREDIT", x.told(0, 3), 0);
        Checks.due("OPEN", x.told(0, 4), 120);
        Checks.balanced("behind it", x);
    }

    private static void aNoteBelowZeroPaysTheOldest() {
        BillForge x = Checks.withTariff("fee 310;rest 1");
        x.subscribe(0, 0);
        Checks.tickTo(x, 60);
        x.run();
        x.pay(0, 310);
        Checks.setTariff(x, 0, "fee 0;rest 1");
        Checks.due("run", x.run(), 2);
        Checks.invoiceIs(x, 2, 0, 0, -310, 60, -310, 0);
        Checks.invoiceIs(x, 3, 0, 1, -310, 60, -310, 0);
        Checks.due("the second one is paid by the NOTE", x.invoice(1, 4), 310);
        Checks.due("CREDIT", x.told(0, 3), 310);
        Checks.due("RECEIVABLE", x.books(1), 0);
        Checks.due("REVENUE", x.books(3), 0);
        Checks.balanced("behind it", x);
    }

    private static void aNoteBelowZeroEndsTheStage() {
        BillForge x = Checks.withTariff("fee 310;rest 1");
        x.subscribe(0, 0);
        x.tick(31);
        x.run();
        Checks.tickTo(x, 70);
        Checks.due("STAGE", x.told(0, 2), 3);
        Checks.setTariff(x, 0, "rest 1");
        Checks.due("run", x.run(), 1);
        Checks.due("STAGE behind the NOTE", x.told(0, 2), 0);
        Checks.due("PAUSED behind the NOTE", x.told(0, 1), 0);
    }

    private static void fiftyAreTheMost() {
        BillForge x = Checks.withTariff("fee 100;rest 0");
        for (int c = 0; c < 5; c++) {
            x.subscribe(c, 0);
        }
        Checks.tickTo(x, 366);
        for (int k = 0; k < 3; k++) {
            x.pay(4, 1000);
        }
        Checks.due("60 should be made", x.run(), 50);
        Checks.due("INVOICES", x.count(2), 50);
        Checks.invoiceIs(x, 48, 4, 0, 100, 366, 100, 0);
        Checks.invoiceIs(x, 49, 4, 1, 100, 366, 100, 0);
        Checks.due("those that have no room take no CREDIT", x.told(4, 3), 2800);
        Checks.due("none more", x.run(), 0);
        Checks.throwing("INVOICE 50", java.util.NoSuchElementException.class, () -> x.invoice(50, 0));
        Checks.setTariff(x, 0, "rest 0");
        Checks.due("nor NOTES", x.run(), 0);
        Checks.due("nor CREDIT of them", x.told(0, 3), 0);
        Checks.balanced("behind it", x);
    }
}
