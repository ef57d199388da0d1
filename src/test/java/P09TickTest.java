/** Promise 9: tick, and the STAGES that it looks at. */
public final class P09TickTest {
    public static void main(String[] args) {
        daysGoBy();
        wrongNumbers();
        stagesByDays();
        manyDaysAreOneBehindTheOther();
        thePauseOfStageThreeBeginsWithItsDay();
        aPauseOfTheCustomersOwn();
        withoutTariff();
        Checks.finish();
    }

    private static void daysGoBy() {
        BillForge x = new BillForge();
        Checks.due("1", x.tick(1), 1);
        Checks.due("40", x.tick(40), 41);
        Checks.due("TODAY", x.count(0), 41);
        Checks.tickTo(x, 399);
        Checks.illegalState("401", () -> x.tick(2));
        Checks.due("nothing changed", x.count(0), 399);
        Checks.due("400", x.tick(1), 400);
        Checks.illegalState("401", () -> x.tick(1));
        Checks.illegalArgument("0 at the end", () -> x.tick(0));
        Checks.illegalArgument("41 at the end", () -> x.tick(41));
    }

    private static void wrongNumbers() {
        BillForge x = new BillForge();
        Checks.illegalArgument("0", () -> x.tick(0));
        Checks.illegalArgument("-1", () -> x.tick(-1));
        Checks.illegalArgument("41", () -> x.tick(41));
        Checks.illegalArgument("the least", () -> x.tick(Integer.MIN_VALUE));
        Checks.illegalArgument("the most", () -> x.tick(Integer.MAX_VALUE));
        Checks.due("TODAY", x.count(0), 0);
    }

    private static BillForge owing() {
        BillForge x = Checks.withTariff("fee 310;rest 1");
        x.subscribe(0, 0);
        x.tick(31);
        x.run();
        return x;
    }

    private static void stagesByDays() {
        BillForge x = owing();
        for (int day = 32; day <= 90; day++) {
            x.tick(1);
            int overdue = Math.max(0, day - 45);
            int stage = overdue == 0 ? 0 : overdue <= 10 ? 1 : overdue <= 20 ? 2 : 3;
            Checks.due("STAGE on " + day, x.told(0, 2), stage);
            Checks.due("PAUSED on " + day, x.told(0, 1), stage == 3 ? 1 : 0);
            Checks.due("OVERDUE on " + day, x.invoice(0, 5), overdue);
            Checks.due("STAGE of another on " + day, x.told(1, 2), 0);
        }
    }

    private static void manyDaysAreOneBehindTheOther() {
        BillForge x = owing();
        x.tick(40);
        Checks.due("STAGE", x.told(0, 2), 3);
        // March has begun on DAY 60; the DAYS 60 to 65 are LIVE, 66 is the first with STAGE 3.
        Checks.due("CHARGE of March", x.charge(0, 2), 60);
    }

    private static void thePauseOfStageThreeBeginsWithItsDay() {
        BillForge x = owing();
        Checks.tickTo(x, 66);
        Checks.due("TODAY is not LIVE", x.charge(0, 2), 60);
        x.pay(0, 310);
        Checks.due("but if it is paid on that DAY", x.charge(0, 2), 70);
        x.tick(1);
        Checks.due("and stays so", x.charge(0, 2), 80);
    }

    private static void aPauseOfTheCustomersOwn() {
        BillForge x = owing();
        x.pause(0, true);
        Checks.tickTo(x, 60);
        x.pay(0, 310);
        Checks.due("STAGE from 2", x.told(0, 2), 0);
        Checks.due("stays PAUSED", x.told(0, 1), 1);
        BillForge y = owing();
        y.pause(0, true);
        Checks.tickTo(y, 66);
        y.pay(0, 310);
        Checks.due("STAGE from 3", y.told(0, 2), 0);
        Checks.due("is not PAUSED any more", y.told(0, 1), 0);
    }

    private static void withoutTariff() {
        BillForge x = owing();
        x.subscribe(0, -1);
        Checks.tickTo(x, 66);
        Checks.due("PAUSED without TARIFF", x.told(0, 1), 1);
        Checks.illegalState("pause without TARIFF", () -> x.pause(0, true) ? 1 : 0);
    }
}
