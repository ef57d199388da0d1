/** Promise 12: plan. */
public final class P12PlanTest {
    public static void main(String[] args) {
        earnedByDays();
        eachPlanIsCutAlone();
        aPlanPaysNoInvoice();
        tenAreTheMost();
        wrongNumbers();
        Checks.finish();
    }

    private static void earnedByDays() {
        BillForge x = new BillForge();
        x.tick(5);
        Checks.due("first", x.plan(3, 1000, 7), 1);
        Checks.due("CASH", x.books(0), 1000);
        long[] earned = {0, 142, 285, 428, 571, 714, 857, 1000, 1000, 1000};
        for (int day = 0; day < earned.length; day++) {
            Checks.due("EARNED " + day, x.told(3, 6), earned[day]);
            Checks.due("DEFERRED " + day, x.told(3, 5), 1000 - earned[day]);
            Checks.due("REVENUE " + day, x.books(3), earned[day]);
            Checks.due("all DEFERRED " + day, x.books(4), 1000 - earned[day]);
            x.tick(1);
        }
        Checks.due("of another CUSTOMER", x.told(2, 6), 0);
    }

    private static void eachPlanIsCutAlone() {
        BillForge x = new BillForge();
        x.plan(0, 10, 3);
        x.plan(0, 10, 3);
        x.plan(1, 1000000, 400);
        x.tick(1);
        Checks.due("EARNED", x.told(0, 6), 6);
        Checks.due("DEFERRED", x.told(0, 5), 14);
        Checks.due("a long one", x.told(1, 6), 2500);
        x.plan(0, 100, 1);
        Checks.due("begins TODAY", x.told(0, 6), 6);
        x.tick(1);
        Checks.due("goes by", x.told(0, 6), 112);
        Checks.balanced("behind it", x);
        Checks.tickTo(x, 400);
        Checks.due("all of a long one", x.told(1, 6), 1000000);
    }

    private static void aPlanPaysNoInvoice() {
        BillForge x = Checks.withTariff("fee 100;rest 0");
        x.subscribe(0, 0);
        x.tick(31);
        x.run();
        x.plan(0, 500, 10);
        Checks.due("OPEN", x.told(0, 4), 100);
        Checks.due("CREDIT", x.told(0, 3), 0);
        Checks.balanced("behind it", x);
    }

    private static void tenAreTheMost() {
        BillForge x = new BillForge();
        for (int i = 1; i <= 10; i++) {
            Checks.due("PLAN " + i, x.plan(i % 5, i, i), i);
        }
        Checks.illegalState("one more", () -> x.plan(0, 1, 1));
        Checks.illegalArgument("a wrong one more", () -> x.plan(0, 0, 1));
        Checks.due("CASH", x.books(0), 55);
        Checks.due("DEFERRED of all", x.books(4), 55);
        Checks.due("DEFERRED of one", x.told(0, 5), 15);
        x.tick(40);
        Checks.due("EARNED of all", x.books(3), 55);
        Checks.due("EARNED of one", x.told(4, 6), 13);
        Checks.illegalState("one more when they are over", () -> x.plan(0, 1, 1));
        Checks.due("how many", x.count(3), 10);
    }

    private static void wrongNumbers() {
        BillForge x = new BillForge();
        Checks.illegalArgument("c -1", () -> x.plan(-1, 1, 1));
        Checks.illegalArgument("c 5", () -> x.plan(5, 1, 1));
        Checks.illegalArgument("amount 0", () -> x.plan(0, 0, 1));
        Checks.illegalArgument("amount 1000001", () -> x.plan(0, 1000001, 1));
        Checks.illegalArgument("days 0", () -> x.plan(0, 1, 0));
        Checks.illegalArgument("days 401", () -> x.plan(0, 1, 401));
        Checks.due("CASH", x.books(0), 0);
        Checks.due("PLANS", x.count(3), 0);
        Checks.due("the most", x.plan(0, 1000000, 400), 1);
    }
}
