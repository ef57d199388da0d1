/** Promise 7: pause, and of the terms which DAYS are LIVE. */
public final class P07PauseTest {
    public static void main(String[] args) {
        answersWhetherItChanged();
        pausedDaysAreNotLive();
        withoutTariff();
        withStageThree();
        withStageTwo();
        stageThreeWithoutTariff();
        wrongCustomers();
        Checks.finish();
    }

    private static long on(BillForge x, int c) {
        return x.pause(c, true) ? 1 : 0;
    }

    private static long off(BillForge x, int c) {
        return x.pause(c, false) ? 1 : 0;
    }

    private static void answersWhetherItChanged() {
        Checks.sentence("It is PAUSED, or not any more: whether that changed something.");
        BillForge x = new BillForge();
        for (int c = 0; c <= 4; c++) {
            x.subscribe(c, c % 3);
            Checks.due("off already", x.pause(c, false), false);
            Checks.due("told", x.told(c, 1), 0);
            Checks.due("on", x.pause(c, true), true);
            Checks.due("told", x.told(c, 1), 1);
            Checks.due("on already", x.pause(c, true), false);
            Checks.due("told", x.told(c, 1), 1);
            Checks.due("off", x.pause(c, false), true);
            Checks.due("told", x.told(c, 1), 0);
            Checks.due("off already", x.pause(c, false), false);
        }
        x.pause(2, true);
        for (int c = 0; c <= 4; c++) {
            Checks.due("only 2 is PAUSED: " + c, x.told(c, 1), c == 2 ? 1 : 0);
        }
        x.tick(40);
        Checks.due("it stays PAUSED", x.told(2, 1), 1);
        Checks.due("its TARIFF stays", x.told(2, 0), 2);
    }

    private static void pausedDaysAreNotLive() {
        Checks.sentence("A DAY is LIVE for a TARIFF if it is that of the SUBSCRIPTION and it is not PAUSED.");
        BillForge x = Checks.withTariff("fee 310;rest 1");
        x.subscribe(0, 0);
        x.event(1, 0, 0, 7);
        x.pause(0, true);
        Checks.due("TODAY", x.charge(0, 0), 0);
        x.pause(0, false);
        Checks.due("TODAY again", x.charge(0, 0), 17);
        x.tick(1);
        x.pause(0, true);
        x.event(2, 0, 1, 50);
        x.tick(9);
        x.pause(0, false);
        x.tick(21);
        Checks.due("nine days less, and an EVENT", x.charge(0, 0), 220 + 7);
        x.pause(0, true);
        Checks.due("PAUSED later", x.charge(0, 0), 220 + 7);
    }

    private static void withoutTariff() {
        Checks.sentence("IllegalStateException if it has no TARIFF");
        for (int c = 0; c <= 4; c++) {
            int of = c;
            Checks.refusedState("on of " + c, BillForge::new, x -> on(x, of));
            Checks.refusedState("off of " + c, BillForge::new, x -> off(x, of));
        }
        Checks.refusedState("on", Fixtures::busy, x -> on(x, 4));
        Checks.refusedState("off", Fixtures::busy, x -> off(x, 4));
        Checks.refusedState("on, when it has none any more", P07PauseTest::withNoneAnyMore, x -> on(x, 0));
        Checks.refusedState("off, when it has none any more", P07PauseTest::withNoneAnyMore, x -> off(x, 0));
        for (int t = 0; t <= 2; t++) {
            BillForge x = new BillForge();
            x.subscribe(0, t);
            Checks.due("with TARIFF " + t, x.pause(0, true), true);
        }
    }

    private static BillForge withNoneAnyMore() {
        BillForge x = new BillForge();
        x.subscribe(0, 2);
        x.subscribe(0, -1);
        return x;
    }

    private static void withStageThree() {
        Checks.sentence("IllegalStateException if [...] on is false and the STAGE is 3");
        Checks.refusedState("off with STAGE 3", () -> Fixtures.owingFor(35), x -> off(x, 0));
        Checks.refusedState("off with STAGE 3 of 1", Fixtures::busy, x -> off(x, 1));
        Checks.refusedState("off with STAGE 3 of 3", Fixtures::busy, x -> off(x, 3));
        BillForge x = Fixtures.owingFor(35);
        Checks.due("on with STAGE 3", x.pause(0, true), false);
        Checks.toldIs(x, 0, 0, 1, 3);
        x.pay(0, 310);
        Checks.due("off when it has ended", x.pause(0, false), false);
        Checks.due("on when it has ended", x.pause(0, true), true);
    }

    private static void withStageTwo() {
        Checks.sentence("IllegalStateException if [...] on is false and the STAGE is 3");
        int[] days = {14, 15, 24, 25, 34};
        long[] stages = {0, 1, 1, 2, 2};
        for (int i = 0; i < days.length; i++) {
            BillForge x = Fixtures.owingFor(days[i]);
            Checks.due("STAGE", x.told(0, 2), stages[i]);
            Checks.due("off already with STAGE " + stages[i], x.pause(0, false), false);
            Checks.due("on with STAGE " + stages[i], x.pause(0, true), true);
            Checks.due("off with STAGE " + stages[i], x.pause(0, false), true);
        }
    }

    private static void stageThreeWithoutTariff() {
        Checks.sentence("IllegalStateException if it has no TARIFF, or on is false and the STAGE is 3.");
        Checks.refusedState("on", P07PauseTest::stoppedWithoutTariff, x -> on(x, 0));
        Checks.refusedState("off", P07PauseTest::stoppedWithoutTariff, x -> off(x, 0));
    }

    private static BillForge stoppedWithoutTariff() {
        BillForge x = Fixtures.owingFor(35);
        x.subscribe(0, -1);
        return x;
    }

    private static void wrongCustomers() {
        Checks.sentence("IllegalArgumentException for another c");
        int[] wrong = {-1, 5, Integer.MIN_VALUE, Integer.MAX_VALUE};
        for (int c : wrong) {
            Checks.refusedArgument("on of " + c, Fixtures::busy, x -> on(x, c));
            Checks.refusedArgument("off of " + c, Fixtures::busy, x -> off(x, c));
            Checks.refusedArgument("on of " + c + " where none has a TARIFF", BillForge::new, x -> on(x, c));
        }
    }
}
