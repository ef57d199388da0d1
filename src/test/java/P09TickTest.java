/** Promise 9: tick. The STAGES that it looks at stand in TermsStageTest. */
public final class P09TickTest {
    public static void main(String[] args) {
        oneToForty();
        wrongNumbers();
        fourHundredIsTheLast();
        aWrongNumberIsToldBeforeTheLastDay();
        oneBehindTheOther();
        todayGoesOnByTickAlone();
        Checks.finish();
    }

    private static void oneToForty() {
        Checks.sentence("So many DAYS (1 to 40) go by, one behind the other: TODAY.");
        for (int days = 1; days <= 40; days++) {
            BillForge x = new BillForge();
            Checks.due("tick " + days, x.tick(days), days);
            Checks.due("TODAY", x.count(0), days);
            Checks.due("tick 1 behind it", x.tick(1), days + 1);
            Checks.due("tick 40 behind it", x.tick(40), days + 41);
        }
    }

    private static void wrongNumbers() {
        Checks.sentence("IllegalArgumentException for another number");
        int[] wrong = {0, -1, -40, 41, 400, Integer.MIN_VALUE, Integer.MAX_VALUE};
        for (int days : wrong) {
            Checks.refusedArgument("tick " + days, BillForge::new, x -> x.tick(days));
            Checks.refusedArgument("tick " + days, Fixtures::busy, x -> x.tick(days));
        }
    }

    private static BillForge on(int day) {
        BillForge x = Fixtures.owing();
        x.plan(1, 1000, 400);
        Checks.tickTo(x, day);
        return x;
    }

    private static void fourHundredIsTheLast() {
        Checks.sentence("IllegalStateException if it would be above 400.");
        for (int days = 1; days <= 40; days++) {
            int left = days;
            Checks.due("tick " + days + " to 400", on(400 - days).tick(days), 400);
            Checks.refusedState("tick " + days + " to 401", () -> on(401 - left), x -> x.tick(left));
        }
        Checks.refusedState("tick 40 to 440", () -> on(400), x -> x.tick(40));
        Checks.refusedState("tick 1", Fixtures::full, x -> x.tick(1));
        BillForge x = on(399);
        Checks.illegalState("tick 2", () -> x.tick(2));
        Checks.due("not a part of it goes by", x.count(0), 399);
        Checks.due("tick 1", x.tick(1), 400);
    }

    private static void aWrongNumberIsToldBeforeTheLastDay() {
        Checks.sentence("IllegalArgumentException for another number; IllegalStateException if it would be above 400.");
        int[] wrong = {0, -1, 41, Integer.MIN_VALUE, Integer.MAX_VALUE};
        for (int days : wrong) {
            Checks.refusedArgument("tick " + days + " on 400", Fixtures::full, x -> x.tick(days));
            Checks.refusedArgument("tick " + days + " on 399", () -> on(399), x -> x.tick(days));
        }
    }

    private static void oneBehindTheOther() {
        Checks.sentence("So many DAYS (1 to 40) go by, one behind the other");
        BillForge atOnce = Fixtures.owing();
        BillForge oneByOne = Fixtures.owing();
        atOnce.tick(40);
        for (int i = 0; i < 40; i++) {
            oneByOne.tick(1);
        }
        Checks.due("STAGE", atOnce.told(0, 2), 3);
        // March has begun on DAY 60; the DAYS 60 to 65 are LIVE, 66 is the first with STAGE 3.
        Checks.due("CHARGE of March", atOnce.charge(0, 2), 60);
        Checks.sameState("40 at once", atOnce, oneByOne);
    }

    private static void todayGoesOnByTickAlone() {
        Checks.sentence("TODAY is 0 at first; it goes on by tick alone.");
        BillForge x = Checks.withTariff("fee 310;rest 1");
        x.subscribe(0, 0);
        x.event(1, 0, 0, 1);
        x.run();
        x.pay(0, 1);
        x.plan(0, 1, 1);
        x.pause(0, true);
        x.charge(0, 13);
        x.date(100000, 0);
        x.use(0, 5);
        Checks.due("TODAY", x.count(0), 0);
        x.tick(31);
        x.run();
        x.pay(0, 1000);
        x.event(2, 0, 20, 1);
        x.subscribe(0, -1);
        Checks.due("TODAY", x.count(0), 31);
    }
}
