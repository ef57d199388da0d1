/** Promise 7: pause. */
public final class P07PauseTest {
    public static void main(String[] args) {
        answersWhetherItChanged();
        daysAreNotLive();
        withStageThree();
        wrongCalls();
        Checks.finish();
    }

    private static void answersWhetherItChanged() {
        BillForge x = new BillForge();
        x.subscribe(1, 0);
        Checks.due("off already", x.pause(1, false), false);
        Checks.due("on", x.pause(1, true), true);
        Checks.due("told", x.told(1, 1), 1);
        Checks.due("on already", x.pause(1, true), false);
        Checks.due("off", x.pause(1, false), true);
        Checks.due("told", x.told(1, 1), 0);
        x.pause(1, true);
        Checks.due("another CUSTOMER", x.told(0, 1), 0);
    }

    private static void daysAreNotLive() {
        BillForge x = Checks.withTariff("fee 310;rest 1");
        x.subscribe(0, 0);
        x.event(1, 0, 0, 7);
        x.pause(0, true);
        Checks.due("TODAY", x.charge(0, 0), 0);
        x.pause(0, false);
        Checks.due("TODAY again", x.charge(0, 0), 17);
        x.tick(1);
        x.pause(0, true);
        x.event(2, 0, 1, 50);
        x.tick(9);
        x.pause(0, false);
        x.tick(21);
        Checks.due("nine days less, and an EVENT", x.charge(0, 0), 220 + 7);
    }

    private static void withStageThree() {
        BillForge x = Checks.withTariff("fee 1000;rest 0");
        x.subscribe(0, 0);
        x.tick(31);
        x.run();
        Checks.tickTo(x, 65);
        Checks.due("STAGE 2", x.told(0, 2), 2);
        Checks.due("on with 2", x.pause(0, true), true);
        Checks.due("off with 2", x.pause(0, false), true);
        x.tick(1);
        Checks.due("STAGE 3", x.told(0, 2), 3);
        Checks.illegalState("off with 3", () -> x.pause(0, false) ? 1 : 0);
        Checks.due("on with 3", x.pause(0, true), false);
        Checks.due("told", x.told(0, 1), 1);
    }

    private static void wrongCalls() {
        BillForge x = new BillForge();
        Checks.illegalArgument("c -1", () -> x.pause(-1, true) ? 1 : 0);
        Checks.illegalArgument("c 5", () -> x.pause(5, false) ? 1 : 0);
        Checks.illegalState("no TARIFF, on", () -> x.pause(0, true) ? 1 : 0);
        Checks.illegalState("no TARIFF, off", () -> x.pause(0, false) ? 1 : 0);
        x.subscribe(0, 0);
        x.subscribe(0, -1);
        Checks.illegalState("no TARIFF any more", () -> x.pause(0, true) ? 1 : 0);
        Checks.due("not PAUSED", x.told(0, 1), 0);
    }
}
