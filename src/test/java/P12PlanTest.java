/** Promise 12: plan, and of the terms what of it is EARNED. */
public final class P12PlanTest {
    public static void main(String[] args) {
        answersHowManyThereAre();
        earnedByDays();
        ofOneDay();
        ofFourHundredDays();
        eachPlanIsCutAlone();
        fromTodayOn();
        paidAtOnce();
        paysNoInvoice();
        tenAreTheMost();
        wrongNumbersAreToldBeforeTheTen();
        wrongCustomers();
        wrongAmounts();
        wrongDays();
        Checks.finish();
    }

    private static void answersHowManyThereAre() {
        Checks.sentence("A PLAN of CUSTOMER c: how many PLANS there are.");
        BillForge x = new BillForge();
        for (int c = 0; c <= 4; c++) {
            Checks.due("PLAN of " + c, x.plan(c, 100 + c, 10), c + 1);
            Checks.due("PLANS", x.count(3), c + 1);
        }
        for (int c = 0; c <= 4; c++) {
            Checks.toldIs(x, c, -1, 0, 0, 0, 0, 100 + c, 0);
        }
    }

    private static void earnedByDays() {
        Checks.sentence("EARNED of one are amount * e / DAYS on a DAY, e being the DAYS of it that went by; the rest is DEFERRED.");
        BillForge x = new BillForge();
        x.tick(5);
        x.plan(3, 1000, 7);
        long[] earned = {0, 142, 285, 428, 571, 714, 857, 1000, 1000, 1000};
        for (int day = 0; day < earned.length; day++) {
            Checks.due("EARNED " + day, x.told(3, 6), earned[day]);
            Checks.due("DEFERRED " + day, x.told(3, 5), 1000 - earned[day]);
            Checks.due("REVENUE " + day, x.books(3), earned[day]);
            Checks.due("all DEFERRED " + day, x.books(4), 1000 - earned[day]);
            x.tick(1);
        }
        Checks.due("of another CUSTOMER", x.told(2, 6), 0);
        Checks.tickTo(x, 400);
        Checks.due("no more on the last DAY", x.told(3, 6), 1000);
    }

    private static void ofOneDay() {
        Checks.sentence("or days not 1 to 400");
        BillForge x = new BillForge();
        x.plan(0, 1, 1);
        x.plan(1, 1000000, 1);
        Checks.due("a cent on its DAY", x.told(0, 6), 0);
        Checks.due("a million on its DAY", x.told(1, 5), 1000000);
        x.tick(1);
        Checks.due("a cent behind it", x.told(0, 6), 1);
        Checks.due("a million behind it", x.told(1, 6), 1000000);
        Checks.due("nothing DEFERRED", x.told(1, 5), 0);
        x.tick(1);
        Checks.due("no more later", x.told(1, 6), 1000000);
    }

    private static void ofFourHundredDays() {
        Checks.sentence("or days not 1 to 400");
        BillForge x = new BillForge();
        x.plan(0, 1, 400);
        x.plan(1, 1000000, 400);
        x.plan(2, 399, 400);
        x.tick(1);
        Checks.due("a cent behind a DAY", x.told(0, 6), 0);
        Checks.due("a million behind a DAY", x.told(1, 6), 2500);
        Checks.due("399 behind a DAY", x.told(2, 6), 0);
        x.tick(1);
        Checks.due("399 behind two DAYS", x.told(2, 6), 1);
        Checks.tickTo(x, 399);
        Checks.due("a cent on DAY 399", x.told(0, 6), 0);
        Checks.due("a million on DAY 399", x.told(1, 6), 997500);
        x.tick(1);
        Checks.due("a cent on DAY 400", x.told(0, 6), 1);
        Checks.due("a million on DAY 400", x.told(1, 6), 1000000);
        Checks.due("399 on DAY 400", x.told(2, 6), 399);
        Checks.balanced("on DAY 400", x);
    }

    private static void eachPlanIsCutAlone() {
        Checks.sentence("divisions are cut to the next lesser whole one");
        BillForge x = new BillForge();
        x.plan(0, 10, 3);
        x.plan(0, 10, 3);
        x.plan(1, 10, 3);
        x.tick(1);
        Checks.due("EARNED", x.told(0, 6), 6);
        Checks.due("DEFERRED", x.told(0, 5), 14);
        Checks.due("REVENUE", x.books(3), 9);
        Checks.due("all DEFERRED", x.books(4), 21);
        x.tick(1);
        Checks.due("EARNED", x.told(0, 6), 12);
        x.tick(1);
        Checks.due("EARNED", x.told(0, 6), 20);
    }

    private static void fromTodayOn() {
        Checks.sentence("PLANS are amounts that are paid at once, for so many DAYS from TODAY on");
        BillForge x = new BillForge();
        x.tick(40);
        x.plan(0, 100, 10);
        Checks.due("on the first DAY", x.told(0, 6), 0);
        x.tick(9);
        Checks.due("on the last DAY", x.told(0, 6), 90);
        x.plan(0, 100, 1);
        x.tick(1);
        Checks.due("both are over", x.told(0, 6), 200);
        Checks.tickTo(x, 400);
        x.plan(4, 100, 1);
        Checks.due("one of the last DAY", x.told(4, 5), 100);
    }

    private static void paidAtOnce() {
        Checks.sentence("CASH, all that was paid (by pay and plan)");
        BillForge x = new BillForge();
        x.plan(0, 1000000, 400);
        Checks.booksAre(x, 1000000, 0, 0, 0, 1000000);
        x.pay(0, 5);
        Checks.booksAre(x, 1000005, 0, 5, 0, 1000000);
    }

    private static void paysNoInvoice() {
        Checks.sentence("PLANS are amounts that are paid at once");
        BillForge x = Fixtures.owing();
        x.plan(0, 500, 10);
        Checks.toldIs(x, 0, 0, 0, 0, 0, 310, 500, 0);
        x.tick(10);
        Checks.toldIs(x, 0, 0, 0, 0, 0, 310, 0, 500);
    }

    private static void tenAreTheMost() {
        Checks.sentence("IllegalStateException if there are 10.");
        BillForge x = new BillForge();
        for (int i = 1; i <= 10; i++) {
            Checks.due("PLAN " + i, x.plan(i % 5, i, i), i);
        }
        Checks.illegalState("one more", () -> x.plan(0, 1, 1));
        Checks.due("DEFERRED of all", x.books(4), 55);
        Checks.due("DEFERRED of one", x.told(0, 5), 15);
        x.tick(40);
        Checks.due("EARNED of all", x.books(3), 55);
        Checks.due("EARNED of one", x.told(4, 6), 13);
        Checks.illegalState("one more when they are over", () -> x.plan(0, 1, 1));
        for (int c = 0; c <= 4; c++) {
            int of = c;
            Checks.refusedState("one more of " + c, Fixtures::full, y -> y.plan(of, 1, 1));
            Checks.refusedState("the greatest of " + c, Fixtures::full, y -> y.plan(of, 1000000, 400));
        }
    }

    private static void wrongNumbersAreToldBeforeTheTen() {
        Checks.sentence("IllegalArgumentException if [...]; IllegalStateException if there are 10.");
        Checks.refusedArgument("CUSTOMER -1", Fixtures::full, x -> x.plan(-1, 1, 1));
        Checks.refusedArgument("CUSTOMER 5", Fixtures::full, x -> x.plan(5, 1, 1));
        Checks.refusedArgument("amount 0", Fixtures::full, x -> x.plan(0, 0, 1));
        Checks.refusedArgument("amount 1000001", Fixtures::full, x -> x.plan(0, 1000001, 1));
        Checks.refusedArgument("0 DAYS", Fixtures::full, x -> x.plan(0, 1, 0));
        Checks.refusedArgument("401 DAYS", Fixtures::full, x -> x.plan(0, 1, 401));
    }

    private static void wrongCustomers() {
        Checks.sentence("IllegalArgumentException if c is not 0 to 4");
        int[] wrong = {-1, 5, Integer.MIN_VALUE, Integer.MAX_VALUE};
        for (int c : wrong) {
            Checks.refusedArgument("CUSTOMER " + c, Fixtures::busy, x -> x.plan(c, 1, 1));
            Checks.refusedArgument("CUSTOMER " + c, BillForge::new, x -> x.plan(c, 1000000, 400));
        }
    }

    private static void wrongAmounts() {
        Checks.sentence("the amount not 1 to 1000000");
        long[] wrong = {0, -1, 1000001, 1L << 32, (1L << 32) + 1, (1L << 33) + 500, Long.MIN_VALUE, Long.MAX_VALUE};
        for (long amount : wrong) {
            Checks.refusedArgument("amount " + amount, Fixtures::busy, x -> x.plan(4, amount, 1));
            Checks.refusedArgument("amount " + amount, BillForge::new, x -> x.plan(0, amount, 400));
        }
    }

    private static void wrongDays() {
        Checks.sentence("or days not 1 to 400");
        int[] wrong = {0, -1, 401, Integer.MIN_VALUE, Integer.MAX_VALUE};
        for (int days : wrong) {
            Checks.refusedArgument(days + " DAYS", Fixtures::busy, x -> x.plan(4, 1, days));
            Checks.refusedArgument(days + " DAYS", BillForge::new, x -> x.plan(0, 1000000, days));
        }
    }
}
