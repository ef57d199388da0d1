/** Of the terms: OVERDUE and THE STAGE. */
public final class TermsStageTest {
    public static void main(String[] args) {
        moreThanFourteenDays();
        asLongAsItIsOpen();
        stagesByDays();
        theGreatestNumberOfDays();
        doesNotFallWhileSomethingIsOverdue();
        isZeroIfNothingIsOverdue();
        climbsAgain();
        lookedAtWhenADayBegins();
        lookedAtWhenCreditHasPaid();
        notLookedAtOtherwise();
        threePauses();
        zeroFromThreeEndsThePause();
        zeroFromTwoLeavesThePause();
        theDayOfStageThree();
        withoutTariff();
        ofEachCustomerAlone();
        Checks.finish();
    }

    /** As owing, and a NOTE of 10 that was made so many DAYS behind the first INVOICE. */
    private static BillForge owingTwice(int daysBetween) {
        BillForge x = Fixtures.owingFor(daysBetween);
        x.event(1, 0, 30, 10);
        x.run();
        return x;
    }

    private static void moreThanFourteenDays() {
        Checks.sentence("An INVOICE is OVERDUE on DAYS that are more than 14 behind that on which it was made [...] by so many DAYS more.");
        for (int days = 0; days <= 40; days++) {
            BillForge x = Fixtures.owingFor(days);
            Checks.due(days + " behind", x.invoice(0, 5), days <= 14 ? 0 : days - 14);
        }
        BillForge x = Fixtures.owing();
        x.subscribe(0, -1);
        Checks.tickTo(x, 400);
        Checks.due("on the last DAY", x.invoice(0, 5), 400 - 31 - 14);
        BillForge note = owingTwice(9);
        Checks.tickTo(note, 40 + 14);
        Checks.due("a NOTE 14 behind", note.invoice(1, 5), 0);
        note.tick(1);
        Checks.due("a NOTE 15 behind", note.invoice(1, 5), 1);
    }

    private static void asLongAsItIsOpen() {
        Checks.sentence("as long as it is OPEN");
        BillForge x = Fixtures.owingFor(20);
        Checks.due("OVERDUE", x.invoice(0, 5), 6);
        x.pay(0, 309);
        Checks.due("a cent is OPEN", x.invoice(0, 5), 6);
        x.pay(0, 1);
        Checks.due("nothing is OPEN", x.invoice(0, 5), 0);
        x.tick(1);
        Checks.due("nor later", x.invoice(0, 5), 0);
    }

    private static int stageFor(int days) {
        int overdue = Math.max(0, days - 14);
        return overdue == 0 ? 0 : overdue <= 10 ? 1 : overdue <= 20 ? 2 : 3;
    }

    private static void stagesByDays() {
        Checks.sentence("0 if nothing is OVERDUE, else by the greatest number of DAYS: 1 up to 10, 2 up to 20, 3 above");
        BillForge x = Fixtures.owing();
        for (int days = 0; days <= 60; days++) {
            Checks.due("STAGE " + days + " behind", x.told(0, 2), stageFor(days));
            Checks.due("PAUSED " + days + " behind", x.told(0, 1), stageFor(days) == 3 ? 1 : 0);
            Checks.due("STAGE of another", x.told(1, 2), 0);
            x.tick(1);
        }
        int[] edges = {14, 15, 24, 25, 34, 35, 40};
        for (int days : edges) {
            Checks.due("STAGE " + days + " behind, at once", Fixtures.owingFor(days).told(0, 2), stageFor(days));
        }
        Checks.tickTo(x, 400);
        Checks.due("STAGE on the last DAY", x.told(0, 2), 3);
    }

    private static void theGreatestNumberOfDays() {
        Checks.sentence("by the greatest number of DAYS");
        BillForge x = owingTwice(10);
        Checks.tickTo(x, 31 + 25);
        Checks.due("OVERDUE by 11", x.invoice(0, 5), 11);
        Checks.due("OVERDUE by 1", x.invoice(1, 5), 1);
        Checks.due("STAGE", x.told(0, 2), 2);
        x.tick(10);
        Checks.due("STAGE by 21 and 11", x.told(0, 2), 3);
    }

    private static void doesNotFallWhileSomethingIsOverdue() {
        Checks.sentence("but it does not fall as long as something is OVERDUE");
        BillForge two = owingTwice(10);
        Checks.tickTo(two, 31 + 25);
        two.pay(0, 310);
        Checks.due("OVERDUE by 1 is left", two.invoice(1, 5), 1);
        Checks.due("STAGE 2 stays", two.told(0, 2), 2);
        two.tick(9);
        Checks.due("STAGE 2 stays with 10", two.told(0, 2), 2);
        two.pay(0, 9);
        Checks.due("a cent is left", two.told(0, 2), 2);
        two.pay(0, 1);
        Checks.due("nothing is left", two.told(0, 2), 0);

        BillForge three = owingTwice(20);
        Checks.tickTo(three, 31 + 35);
        three.pay(0, 310);
        Checks.due("OVERDUE by 1 is left", three.invoice(1, 5), 1);
        Checks.toldIs(three, 0, 0, 1, 3);
        three.tick(1);
        Checks.toldIs(three, 0, 0, 1, 3);
        three.pay(0, 10);
        Checks.toldIs(three, 0, 0, 0, 0);
    }

    private static void isZeroIfNothingIsOverdue() {
        Checks.sentence("0 if nothing is OVERDUE");
        BillForge x = owingTwice(10);
        Checks.tickTo(x, 31 + 24);
        Checks.due("STAGE", x.told(0, 2), 1);
        x.pay(0, 310);
        Checks.due("14 behind is not OVERDUE", x.told(0, 2), 0);
        Checks.due("though it is OPEN", x.told(0, 4), 10);
        BillForge three = owingTwice(21);
        Checks.tickTo(three, 31 + 35);
        Checks.due("STAGE", three.told(0, 2), 3);
        three.pay(0, 310);
        Checks.due("from 3 at once", three.told(0, 2), 0);
        Checks.due("though something is OPEN", three.told(0, 4), 10);
    }

    private static void climbsAgain() {
        Checks.sentence("THE STAGE of a CUSTOMER, looked at when a DAY begins by tick");
        BillForge x = owingTwice(21);
        Checks.tickTo(x, 31 + 35);
        x.pay(0, 310);
        x.tick(1);
        Checks.toldIs(x, 0, 0, 0, 1);
        x.tick(9);
        Checks.toldIs(x, 0, 0, 0, 1);
        x.tick(1);
        Checks.toldIs(x, 0, 0, 0, 2);
        x.tick(9);
        Checks.toldIs(x, 0, 0, 0, 2);
        x.tick(1);
        Checks.toldIs(x, 0, 0, 1, 3);
    }

    private static void lookedAtWhenADayBegins() {
        Checks.sentence("looked at when a DAY begins by tick");
        BillForge x = Fixtures.owingFor(14);
        Checks.due("STAGE before", x.told(0, 2), 0);
        x.tick(1);
        Checks.due("STAGE behind", x.told(0, 2), 1);
        BillForge jump = Fixtures.owing();
        jump.tick(40);
        Checks.toldIs(jump, 0, 0, 1, 3);
    }

    private static void lookedAtWhenCreditHasPaid() {
        Checks.sentence("and when CREDIT has paid something");
        for (int days = 15; days <= 35; days += 10) {
            BillForge x = Fixtures.owingFor(days);
            x.pay(0, 310);
            Checks.due("paid in full " + days + " behind", x.told(0, 2), 0);
            BillForge more = Fixtures.owingFor(days);
            more.pay(0, 1000);
            Checks.due("paid with more " + days + " behind", more.told(0, 2), 0);
            BillForge less = Fixtures.owingFor(days);
            less.pay(0, 309);
            Checks.due("a cent is left " + days + " behind", less.told(0, 2), stageFor(days));
        }
        BillForge byNote = Fixtures.owingFor(35);
        byNote.subscribe(0, -1);
        Checks.setTariff(byNote, 0, "rest 0");
        Checks.due("a NOTE below 0, and none for February", byNote.run(), 1);
        Checks.due("its CREDIT has paid", byNote.told(0, 4), 0);
        Checks.toldIs(byNote, 0, -1, 0, 0);
    }

    private static void notLookedAtOtherwise() {
        Checks.sentence("looked at when a DAY begins by tick, and when CREDIT has paid something");
        BillForge x = Fixtures.owingFor(35);
        x.plan(0, 1000, 10);
        x.pay(1, 1000);
        x.run();
        Checks.toldIs(x, 0, 0, 1, 3);
    }

    private static void threePauses() {
        Checks.sentence("When it becomes 3 the SUBSCRIPTION becomes PAUSED");
        BillForge x = Fixtures.owingFor(34);
        Checks.toldIs(x, 0, 0, 0, 2);
        x.tick(1);
        Checks.toldIs(x, 0, 0, 1, 3);
        BillForge own = Fixtures.owingFor(34);
        own.pause(0, true);
        own.tick(1);
        Checks.toldIs(own, 0, 0, 1, 3);
    }

    private static void zeroFromThreeEndsThePause() {
        Checks.sentence("when it becomes 0 from 3 it is not PAUSED any more");
        BillForge x = Fixtures.owingFor(35);
        x.pay(0, 309);
        Checks.toldIs(x, 0, 0, 1, 3);
        x.pay(0, 1);
        Checks.toldIs(x, 0, 0, 0, 0);
        BillForge own = Fixtures.owingFor(34);
        own.pause(0, true);
        own.tick(1);
        own.pay(0, 310);
        Checks.toldIs(own, 0, 0, 0, 0);
    }

    private static void zeroFromTwoLeavesThePause() {
        Checks.sentence("when it becomes 0 from 3 it is not PAUSED any more");
        int[] edges = {15, 24, 25, 34};
        for (int days : edges) {
            BillForge x = Fixtures.owingFor(days);
            x.pause(0, true);
            x.pay(0, 310);
            Checks.toldIs(x, 0, 0, 1, 0);
            x.tick(1);
            Checks.toldIs(x, 0, 0, 1, 0);
        }
    }

    private static void theDayOfStageThree() {
        Checks.sentence("When it becomes 3 the SUBSCRIPTION becomes PAUSED");
        BillForge x = Fixtures.owingFor(35);
        Checks.due("TODAY, DAY 66, is not LIVE", x.charge(0, 2), 60);
        x.tick(1);
        Checks.due("nor DAY 67", x.charge(0, 2), 60);
        x.pay(0, 310);
        Checks.due("but if it is paid on that DAY", x.charge(0, 2), 70);
        x.tick(1);
        Checks.due("and so on", x.charge(0, 2), 80);
    }

    private static void withoutTariff() {
        Checks.sentence("When it becomes 3 the SUBSCRIPTION becomes PAUSED; when it becomes 0 from 3 it is not PAUSED any more.");
        BillForge x = Fixtures.owing();
        x.subscribe(0, -1);
        Checks.tickTo(x, 31 + 35);
        Checks.toldIs(x, 0, -1, 1, 3);
        x.pay(0, 310);
        Checks.toldIs(x, 0, -1, 0, 0);
    }

    private static void ofEachCustomerAlone() {
        Checks.sentence("THE STAGE of a CUSTOMER");
        BillForge x = Checks.withTariff("fee 310;rest 1");
        for (int c = 0; c <= 4; c++) {
            x.subscribe(c, 0);
        }
        x.tick(31);
        x.run();
        x.pay(4, 310);
        Checks.tickTo(x, 31 + 35);
        x.pay(1, 310);
        long[] stages = {3, 0, 3, 3, 0};
        for (int c = 0; c <= 4; c++) {
            Checks.toldIs(x, c, 0, stages[c] == 3 ? 1 : 0, stages[c]);
        }
    }
}
