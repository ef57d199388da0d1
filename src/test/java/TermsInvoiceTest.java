/** Of the terms: INVOICES, NOTES, OPEN and CREDIT. */
public final class TermsInvoiceTest {
    public static void main(String[] args) {
        thePeriodHasEnded();
        theChargeIsNotZero();
        fromTheRunThatFindsItOn();
        notesWithTheDifference();
        noNoteWithoutADifference();
        aNoteBelowZero();
        aNoteBelowZeroWithNothingOpen();
        whatIsOpen();
        creditPaysTheOldestFirst();
        creditPaysAsSoonAsThereAreBoth();
        amountsAreLongs();
        Checks.finish();
    }

    private static void thePeriodHasEnded() {
        Checks.sentence("There is one for each PERIOD that has ended (its last DAY is before TODAY)");
        int[] firstDays = {31, 60, 91, 121, 152, 182, 213, 244, 274, 305, 335, 366, 397};
        for (int p = 0; p < firstDays.length; p++) {
            BillForge x = Checks.withTariff("fee 310;rest 0");
            x.subscribe(0, 0);
            Checks.tickTo(x, firstDays[p] - 1);
            Checks.due("on the last DAY of PERIOD " + p, x.run(), p);
            x.tick(1);
            Checks.due("on the DAY behind it", x.run(), 1);
            Checks.invoiceIs(x, p, 0, p, 310, firstDays[p], 0, 0);
        }
        BillForge x = Checks.withTariff("fee 310;rest 0");
        x.subscribe(0, 0);
        Checks.tickTo(x, 400);
        Checks.due("PERIOD 13 does not end", x.run(), 13);
        Checks.due("though it has a CHARGE", x.charge(0, 13) > 0, true);
    }

    private static void theChargeIsNotZero() {
        Checks.sentence("and whose CHARGE is not 0");
        BillForge zero = Checks.withTariff("fee 30;rest 0");
        zero.subscribe(0, 0);
        zero.tick(1);
        zero.subscribe(0, -1);
        zero.tick(30);
        Checks.due("30 * 1 / 31", zero.charge(0, 0), 0);
        Checks.due("none for 0", zero.run(), 0);
        BillForge one = Checks.withTariff("fee 31;rest 0");
        one.subscribe(0, 0);
        one.tick(1);
        one.subscribe(0, -1);
        one.tick(30);
        Checks.due("one for a cent", one.run(), 1);
        Checks.invoiceIs(one, 0, 0, 0, 1, 31, 0, 0);
        BillForge late = Checks.withTariff("rest 1");
        late.subscribe(0, 0);
        late.tick(31);
        Checks.due("none yet", late.run(), 0);
        late.event(1, 0, 30, 1);
        Checks.due("one when it is not 0 any more", late.run(), 1);
        Checks.invoiceIs(late, 0, 0, 0, 1, 31, 0, 0);
    }

    private static void fromTheRunThatFindsItOn() {
        Checks.sentence("from the run that finds it on");
        BillForge x = Checks.withTariff("fee 310;rest 0");
        x.subscribe(0, 0);
        Checks.tickTo(x, 100);
        Checks.due("none without a run", x.count(2), 0);
        Checks.due("nothing OPEN", x.told(0, 4), 0);
        Checks.due("all three", x.run(), 3);
        for (int p = 0; p < 3; p++) {
            Checks.invoiceIs(x, p, 0, p, 310, 100, 0, 0);
        }
        Checks.due("they are there", x.run(), 0);
        x.tick(1);
        Checks.due("and stay", x.run(), 0);
    }

    private static void notesWithTheDifference() {
        Checks.sentence("if the AMOUNTS of those of a CUSTOMER and PERIOD together are not the CHARGE as it is now, "
                + "a run makes one with the difference");
        BillForge x = Fixtures.owing();
        x.event(1, 0, 30, 1);
        Checks.due("a cent more", x.run(), 1);
        Checks.invoiceIs(x, 1, 0, 0, 1, 31, 0, 0);
        x.tick(2);
        x.event(2, 0, 0, 40);
        Checks.due("more again", x.run(), 1);
        Checks.invoiceIs(x, 2, 0, 0, 40, 33, 0, 0);
        Checks.setTariff(x, 0, "fee 309;rest 1");
        Checks.due("a cent less", x.run(), 1);
        Checks.invoiceIs(x, 3, 0, 0, -1, 33, -1, 0);
        Checks.invoiceIs(x, 0, 0, 0, 310, 31, 1, 0);
        Checks.due("together they are the CHARGE", x.books(3), x.charge(0, 0));
        Checks.balanced("behind it", x);
    }

    private static void noNoteWithoutADifference() {
        Checks.sentence("if the AMOUNTS of those of a CUSTOMER and PERIOD together are not the CHARGE as it is now");
        BillForge x = Fixtures.owing();
        x.pay(0, 5);
        x.pay(1, 5);
        x.event(1, 1, 0, 50);
        x.event(2, 0, 31, 50);
        Checks.due("nothing of January has changed", x.run(), 0);
        Checks.setTariff(x, 0, "fee 300;min 10;rest 1");
        Checks.due("another TARIFF with the same CHARGE", x.run(), 0);
        x.event(3, 0, 30, 10);
        Checks.due("an EVENT within MIN", x.run(), 0);
        x.event(4, 0, 30, 1);
        Checks.due("and one above", x.run(), 1);
        Checks.invoiceIs(x, 1, 0, 0, 1, 31, 0, 0);
    }

    private static void aNoteBelowZero() {
        Checks.sentence("What is below 0 becomes CREDIT of the CUSTOMER, and is PAID at once.");
        BillForge x = Fixtures.owing();
        Checks.setTariff(x, 0, "fee 31;rest 1");
        Checks.due("run", x.run(), 1);
        Checks.invoiceIs(x, 1, 0, 0, -279, 31, -279, 0);
        Checks.invoiceIs(x, 0, 0, 0, 310, 31, 279, 0);
        Checks.due("CREDIT has paid", x.told(0, 3), 0);
        Checks.due("OPEN", x.told(0, 4), 31);
        Checks.booksAre(x, 0, 31, 0, 31, 0);
        x.tick(40);
        Checks.due("it is never OVERDUE", x.invoice(1, 5), 0);
        Checks.setTariff(x, 0, "rest 1");
        x.subscribe(0, -1);
        Checks.due("down to 0", x.run(), 1);
        Checks.invoiceIs(x, 2, 0, 0, -31, 71, -31, 0);
        Checks.booksAre(x, 0, 0, 0, 0, 0);
    }

    private static void aNoteBelowZeroWithNothingOpen() {
        Checks.sentence("What is below 0 becomes CREDIT of the CUSTOMER, and is PAID at once.");
        BillForge x = Fixtures.owing();
        x.pay(0, 310);
        Checks.setTariff(x, 0, "fee 31;rest 1");
        x.run();
        Checks.invoiceIs(x, 0, 0, 0, 310, 31, 310, 0);
        Checks.invoiceIs(x, 1, 0, 0, -279, 31, -279, 0);
        Checks.due("CREDIT stays", x.told(0, 3), 279);
        Checks.due("of no other CUSTOMER", x.told(1, 3), 0);
        Checks.booksAre(x, 310, 0, 279, 31, 0);
        Checks.setTariff(x, 0, "fee 30;rest 1");
        x.run();
        Checks.invoiceIs(x, 2, 0, 0, -1, 31, -1, 0);
        Checks.due("a cent more of CREDIT", x.told(0, 3), 280);
        BillForge part = Fixtures.owing();
        part.pay(0, 300);
        Checks.setTariff(part, 0, "fee 299;rest 1");
        part.run();
        Checks.invoiceIs(part, 0, 0, 0, 310, 31, 310, 0);
        Checks.due("what is left of 11 when 10 were OPEN", part.told(0, 3), 1);
    }

    private static void whatIsOpen() {
        Checks.sentence("OPEN is what is not PAID of an INVOICE above 0.");
        BillForge x = Fixtures.owing();
        Checks.due("all", x.told(0, 4), 310);
        x.pay(0, 1);
        Checks.due("all but a cent", x.told(0, 4), 309);
        x.pay(0, 308);
        Checks.due("a cent", x.told(0, 4), 1);
        x.pay(0, 1);
        Checks.due("nothing", x.told(0, 4), 0);
        x.pay(0, 1);
        Checks.due("nothing, not less", x.told(0, 4), 0);
        Checks.setTariff(x, 0, "rest 0");
        x.run();
        Checks.due("nothing of a NOTE below 0", x.told(0, 4), 0);
    }

    private static void creditPaysTheOldestFirst() {
        Checks.sentence("CREDIT pays OPEN INVOICES, the oldest first");
        BillForge x = Fixtures.owingFor(40);
        x.run();
        x.event(1, 0, 30, 5);
        x.run();
        Checks.due("January, February, and a NOTE for January", x.count(2), 3);
        paid(x, 0, 0, 0);
        x.pay(0, 309);
        paid(x, 309, 0, 0);
        x.pay(0, 1);
        paid(x, 310, 0, 0);
        x.pay(0, 1);
        paid(x, 310, 1, 0);
        x.pay(0, 310);
        paid(x, 310, 310, 1);
        x.pay(0, 5);
        paid(x, 310, 310, 5);
        Checks.due("CREDIT", x.told(0, 3), 1);
    }

    private static void paid(BillForge x, long... due) {
        for (int k = 0; k < due.length; k++) {
            Checks.due("PAID of INVOICE " + k, x.invoice(k, 4), due[k]);
        }
    }

    private static void creditPaysAsSoonAsThereAreBoth() {
        Checks.sentence("as soon as there are both");
        long[] credits = {1, 309, 310, 311, 619, 620, 621};
        for (long credit : credits) {
            BillForge x = Checks.withTariff("fee 310;rest 1");
            x.subscribe(0, 0);
            x.pay(0, credit);
            Checks.due("CREDIT", x.told(0, 3), credit);
            Checks.tickTo(x, 60);
            Checks.due("run", x.run(), 2);
            paid(x, Math.min(310, credit), Math.max(0, Math.min(310, credit - 310)));
            Checks.due("CREDIT of " + credit + " behind it", x.told(0, 3), Math.max(0, credit - 620));
            Checks.due("OPEN behind it", x.told(0, 4), Math.max(0, 620 - credit));
        }
        BillForge note = Fixtures.owing();
        note.pay(0, 310);
        note.pay(0, 7);
        note.event(1, 0, 30, 9);
        note.run();
        Checks.invoiceIs(note, 1, 0, 0, 9, 31, 7, 0);
        BillForge other = Fixtures.owing();
        other.pay(1, 500);
        Checks.due("that of another pays nothing", other.told(0, 4), 310);
        Checks.due("and stays", other.told(1, 3), 500);
    }

    private static void amountsAreLongs() {
        Checks.sentence("Amounts are cents (longs)");
        BillForge x = Checks.withTariff("rest 99999");
        x.subscribe(0, 0);
        x.subscribe(1, 0);
        for (int key = 0; key < 80; key++) {
            x.event(key, key % 2, 0, 10000);
        }
        x.tick(31);
        long each = 40L * 10000 * 99999;
        Checks.due("CHARGE", x.charge(0, 0), each);
        Checks.due("run", x.run(), 2);
        Checks.due("AMOUNT", x.invoice(1, 2), each);
        Checks.due("OPEN", x.told(0, 4), each);
        Checks.booksAre(x, 0, 2 * each, 0, 2 * each, 0);
        x.pay(0, 1000000);
        Checks.due("OPEN behind a payment", x.told(0, 4), each - 1000000);
        Checks.setTariff(x, 0, "rest 0");
        Checks.due("NOTES", x.run(), 2);
        Checks.due("AMOUNT below 0", x.invoice(2, 2), -each);
        Checks.due("PAID of it", x.invoice(2, 4), -each);
        Checks.booksAre(x, 1000000, 0, 1000000, 0, 0);
    }
}
